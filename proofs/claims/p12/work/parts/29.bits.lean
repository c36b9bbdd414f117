/-! Ranges of ints. -/
theorem and_nat (x k : Int32) : (x &&& k).toBitVec.toNat ≤ k.toBitVec.toNat := by
  rw [Int32.toBitVec_and, BitVec.toNat_and]; exact Nat.and_le_right
theorem toInt_nat {x : Int32} (h : x.toBitVec.toNat < 2147483648) : x.toInt = (x.toBitVec.toNat : Int) := by
  show x.toBitVec.toInt = _
  rw [BitVec.toInt_eq_toNat_cond]; split
  · rfl
  · omega
theorem nat_toInt {x : Int32} (h : 0 ≤ x.toInt) : (x.toBitVec.toNat : Int) = x.toInt ∧ x.toBitVec.toNat < 2147483648 := by
  have h1 : x.toInt = x.toBitVec.toInt := rfl
  rw [BitVec.toInt_eq_toNat_cond] at h1
  have h2 := x.toBitVec.isLt
  split at h1 <;> omega
theorem and_rng (x k : Int32) (hk : 0 ≤ k.toInt) : 0 ≤ (x &&& k).toInt ∧ (x &&& k).toInt ≤ k.toInt := by
  have h1 := nat_toInt hk
  have h2 := and_nat x k
  rw [toInt_nat (x := x &&& k) (by omega)]
  omega
theorem vp_iff {x : Int32} {n : Nat} : vp_in x n ↔ 0 ≤ x.toInt ∧ x.toInt < n := vp_in_iff
theorem vp_and {x k : Int32} {n : Nat} (hk : 0 ≤ k.toInt ∧ k.toInt < n) : vp_in (x &&& k) n := by
  have h := and_rng x k hk.1
  exact vp_iff.mpr ⟨h.1, by omega⟩
theorem ti_add {x y : Int32} (h1 : -2147483648 ≤ x.toInt + y.toInt) (h2 : x.toInt + y.toInt < 2147483648) : (x + y).toInt = x.toInt + y.toInt := by
  rw [Int32.toInt_add]; exact Int.bmod_eq_of_le (by omega) (by omega)
theorem ti_sub {x y : Int32} (h1 : -2147483648 ≤ x.toInt - y.toInt) (h2 : x.toInt - y.toInt < 2147483648) : (x - y).toInt = x.toInt - y.toInt := by
  rw [Int32.toInt_sub]; exact Int.bmod_eq_of_le (by omega) (by omega)
theorem ti_mul {x y : Int32} (h1 : -2147483648 ≤ x.toInt * y.toInt) (h2 : x.toInt * y.toInt < 2147483648) : (x * y).toInt = x.toInt * y.toInt := by
  rw [Int32.toInt_mul]; exact Int.bmod_eq_of_le (by omega) (by omega)
theorem ti_le {x y : Int32} : x ≤ y ↔ x.toInt ≤ y.toInt := Int32.le_iff_toInt_le
theorem ti_lt {x y : Int32} : x < y ↔ x.toInt < y.toInt := Int32.lt_iff_toInt_lt
theorem ti_inj {x y : Int32} (h : x.toInt = y.toInt) : x = y := Int32.toInt_inj.mp h
theorem ti_clamp {x : Int32} (h : 0 ≤ x.toInt) : (x.toNatClampNeg : Int) = x.toInt := by
  show (x.toInt.toNat : Int) = x.toInt; omega
theorem isB_0 : isB 0 := Or.inl rfl
theorem isB_1 : isB 1 := Or.inr rfl
theorem ps_let {α : Type} {P : α → Prop} {B : Prop} {e : α} (h : P e ∧ B) : (∀ x, x = e → P x) ∧ B := ⟨fun x hx => by subst hx; exact h.1, h.2⟩
theorem ps_and {c r B : Prop} (hc : c) (h : r ∧ B) : (c ∧ r) ∧ B := ⟨⟨hc, h.1⟩, h.2⟩
theorem ps_brp {c r1 r2 B : Prop} (hc : c) (h : r1 ∧ B) : ((c → r1) ∧ (¬ c → r2)) ∧ B := ⟨⟨fun _ => h.1, fun hn => absurd hc hn⟩, h.2⟩
theorem ps_brn {c r1 r2 B : Prop} (hc : ¬ c) (h : r2 ∧ B) : ((c → r1) ∧ (¬ c → r2)) ∧ B := ⟨⟨fun hn => absurd hn hc, fun _ => h.1⟩, h.2⟩
theorem ps_nrp {c r1 r2 B : Prop} (hc : c) (h : r2 ∧ B) : ((¬ c → r1) ∧ (c → r2)) ∧ B := ⟨⟨fun hn => absurd hc hn, fun _ => h.1⟩, h.2⟩
theorem ps_nrn {c r1 r2 B : Prop} (hc : ¬ c) (h : r1 ∧ B) : ((¬ c → r1) ∧ (c → r2)) ∧ B := ⟨⟨fun _ => h.1, fun hn => absurd hn hc⟩, h.2⟩
