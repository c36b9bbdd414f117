/-! No NaN in speed. -/
theorem n64_iff (r : UInt64) : vf_n64 r ↔ r.toNat % 2 ^ 63 ≤ 9218868437227405312 := by
  unfold vf_n64
  rw [UInt64.le_iff_toNat_le, UInt64.toNat_and]
  have h1 : (0x7fffffffffffffff : UInt64).toNat = 2 ^ 63 - 1 := by decide
  have h2 : (0x7ff0000000000000 : UInt64).toNat = 9218868437227405312 := by decide
  rw [h1, h2, Nat.and_two_pow_sub_one_eq_mod]
theorem i2d_nat (x : Int32) : (FP.i2d x).toNat = FP.Core.fromInt FP.Core.b64 x.toInt := by
  show (UInt64.ofNat (FP.Core.fromInt FP.Core.b64 x.toInt)).toNat = _
  exact FP.Core.toNat_of64 (FP.Core.round_fits FP.Core.good_b64 _)
theorem i2d_le (x : Int32) : (FP.i2d x).toNat % 2 ^ 63 ≤ 1054 * 2 ^ 52 := by
  refine FP.Core.fromInt_mag (j := 31) (i2d_nat x) ?_ (by decide) (by decide)
  have := any_rng x
  omega
theorem i2d_ge {x : Int32} (h : ¬ x = 0) : 1023 * 2 ^ 52 ≤ (FP.i2d x).toNat % 2 ^ 63 :=
  FP.Core.fromInt_ge (i2d_nat x) (fun e => h (ti_eq.mpr (e.trans (by decide))))
theorem sp_div {x : Int32} (h : ¬ x = 0) : (FP.ddiv (4697254411347427328 : UInt64) (FP.i2d x)).toNat % 2 ^ 63 < 1045 * 2 ^ 52 := by
  have h1 := i2d_ge h
  have h2 := i2d_le x
  exact FP.Core.ddiv_mag (K := 1044) (L := 1023) (by decide) h1 (by omega) (by decide) (by decide)
theorem n64_lt {a : UInt64} {K : Nat} (h : a.toNat % 2 ^ 63 < K * 2 ^ 52) (hK : K ≤ 2047) : vf_n64 a := by
  rw [n64_iff]
  have : K * 2 ^ 52 ≤ 2047 * 2 ^ 52 := Nat.mul_le_mul_right _ hK
  omega
theorem nn_of {a : UInt64} {K : Nat} (h : a.toNat % 2 ^ 63 < K * 2 ^ 52) (hK : K ≤ 2047) : FP.dIsNaN a = false := by
  rw [FP.Core.notNaN_iff, FP.Core.ne_nan]
  have : K * 2 ^ 52 ≤ 2047 * 2 ^ 52 := Nat.mul_le_mul_right _ hK
  omega
theorem sp_n1 {x : Int32} (h : ¬ x = 0) : vf_n64 (FP.ddiv (4697254411347427328 : UInt64) (FP.i2d x)) := n64_lt (sp_div h) (by decide)
theorem sp_n2 {x y : Int32} (h : ¬ x = 0) : vf_n64 (FP.dmul (FP.ddiv (4697254411347427328 : UInt64) (FP.i2d x)) (FP.i2d y)) := by
  have h1 := sp_div h
  have h2 := i2d_le y
  have h3 : (FP.i2d y).toNat % 2 ^ 63 < 1055 * 2 ^ 52 := by omega
  exact n64_lt (FP.Core.dmul_mag h1 h3 (by decide) (by decide)) (by decide)
