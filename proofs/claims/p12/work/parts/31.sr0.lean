/-! The reference is safe: octets stay octets. -/
theorem ti_eq {x y : Int32} : x = y ↔ x.toInt = y.toInt := Int32.toInt_inj.symm
abbrev oct (x : Int32) : Prop := 0 ≤ x.toInt ∧ x.toInt < 256
abbrev w16 (x : Int32) : Prop := 0 ≤ x.toInt ∧ x.toInt < 65536
def rHi (k : Nat) : Int := [2147483648, 2147483648, 2147483648, 2147483648, 2147483648, 2147483648, 2147483648, 2147483648, 2147483648, 2147483648, 2147483648, 32, 4, 2147483648, 512, 4, 8, 2147483648, 65536, 65536, 2147483648, 2147483648, 2147483648, 2147483648, 2147483648, 2147483648, 256, 65536, 256, 256, 8, 32, 256, 256, 256, 256, 256, 154, 256, 256, 256, 256, 256, 256, 256, 2147483648, 2147483648, 2147483648, 2147483648, 2147483648, 2147483648].getD k 2147483648
def rLo (k : Nat) : Int := [-2147483648, -2147483648, -2147483648, -2147483648, -2147483648, -2147483648, -2147483648, -2147483648, -2147483648, -2147483648, -2147483648, 0, 0, -2147483648, 0, 0, 0, -2147483648, 0, 0, -2147483648, -2147483648, -2147483648, -2147483648, -2147483648, -2147483648, 0, 0, 0, 0, 0, 0, 0, 0, 0, 0, 0, 0, 0, 0, 0, 0, 0, 0, 0, -2147483648, -2147483648, -2147483648, -2147483648, -2147483648, -2147483648].getD k (-2147483648)
def SR (d : Int32) (ρ : Nat → Int32) (N : Mem) : Prop := (∀ c k : Nat, 1 ≤ c → c ≤ 6 → oct (N c k)) ∧ (∀ k : Nat, oct (N 8 k)) ∧ (∀ k : Nat, rLo k ≤ (N 0 k).toInt ∧ (N 0 k).toInt < rHi k) ∧ N 0 25 = d ∧ N 1 = ρ
theorem any_rng (v : Int32) : -2147483648 ≤ v.toInt ∧ v.toInt < 2147483648 := by
  have h1 := Int32.toInt_lt v
  have h2 := Int32.le_toInt v
  omega
theorem SR.sa {d : Int32} {ρ : Nat → Int32} {M : Mem} {c k : Nat} {v : Int32} (h : SR d ρ M) (hc : 2 ≤ c ∧ c ≤ 6) (hv : oct v) : SR d ρ (mst M c k v) := by
  refine ⟨fun c' k' h1 h2 => ?_, fun k' => ?_, fun k' => ?_, ?_, ?_⟩
  · unfold mst upd; split
    · show oct (if k' = k then v else M c k'); split
      · exact hv
      · exact h.1 c k' (by omega) hc.2
    · exact h.1 c' k' h1 h2
  · rw [mst_no (by omega)]; exact h.2.1 k'
  · rw [mst_no (by omega)]; exact h.2.2.1 k'
  · rw [mst_no (by omega)]; exact h.2.2.2.1
  · rw [mst_no (by omega)]; exact h.2.2.2.2
theorem SR.sl {d : Int32} {ρ : Nat → Int32} {M : Mem} {k : Nat} {v : Int32} (h : SR d ρ M) : SR d ρ (mst M 7 k v) := by
  refine ⟨fun c' k' h1 h2 => ?_, fun k' => ?_, fun k' => ?_, ?_, ?_⟩
  · rw [mst_no (by omega)]; exact h.1 c' k' h1 h2
  · rw [mst_no (by omega)]; exact h.2.1 k'
  · rw [mst_no (by omega)]; exact h.2.2.1 k'
  · rw [mst_no (by omega)]; exact h.2.2.2.1
  · rw [mst_no (by omega)]; exact h.2.2.2.2
theorem SR.sr {d : Int32} {ρ : Nat → Int32} {M : Mem} {k : Nat} {v : Int32} (h : SR d ρ M) (hv : oct v) : SR d ρ (mst M 8 k v) := by
  refine ⟨fun c' k' h1 h2 => ?_, fun k' => ?_, fun k' => ?_, ?_, ?_⟩
  · rw [mst_no (by omega)]; exact h.1 c' k' h1 h2
  · unfold mst upd; rw [if_pos rfl]; show oct (if k' = k then v else M 8 k'); split
    · exact hv
    · exact h.2.1 k'
  · rw [mst_no (by omega)]; exact h.2.2.1 k'
  · rw [mst_no (by omega)]; exact h.2.2.2.1
  · rw [mst_no (by omega)]; exact h.2.2.2.2
theorem SR.sf {d : Int32} {ρ : Nat → Int32} {M : Mem} {k : Nat} {v : Int32} (h : SR d ρ M) (hk : k ≠ 25) (hv : rLo k ≤ v.toInt ∧ v.toInt < rHi k) : SR d ρ (mst M 0 k v) := by
  refine ⟨fun c' k' h1 h2 => ?_, fun k' => ?_, fun k' => ?_, ?_, ?_⟩
  · rw [mst_no (by omega)]; exact h.1 c' k' h1 h2
  · rw [mst_no (by omega)]; exact h.2.1 k'
  · unfold mst upd; rw [if_pos rfl]; show rLo k' ≤ (if k' = k then v else M 0 k').toInt ∧ (if k' = k then v else M 0 k').toInt < rHi k'; split
    · rename_i e; subst e; exact hv
    · exact h.2.2.1 k'
  · rw [mst_ne (Ne.symm hk)]; exact h.2.2.2.1
  · rw [mst_no (by omega)]; exact h.2.2.2.2
theorem SR.f {d : Int32} {ρ : Nat → Int32} {M : Mem} (h : SR d ρ M) (k : Nat) : rLo k ≤ (M 0 k).toInt ∧ (M 0 k).toInt < rHi k := h.2.2.1 k
theorem SR.a {d : Int32} {ρ : Nat → Int32} {M : Mem} (h : SR d ρ M) {c k : Nat} (hc : 1 ≤ c ∧ c ≤ 6) : oct (M c k) := h.1 c k hc.1 hc.2
theorem SR.r {d : Int32} {ρ : Nat → Int32} {M : Mem} (h : SR d ρ M) {k : Nat} : oct (M 8 k) := h.2.1 k
theorem andl_rng {x y : Int32} {n : Int} (h : 0 ≤ x.toInt ∧ x.toInt < n) : 0 ≤ (x &&& y).toInt ∧ (x &&& y).toInt < n := by
  have h1 := nat_toInt h.1
  have h2 : (x &&& y).toBitVec.toNat ≤ x.toBitVec.toNat := by rw [Int32.toBitVec_and, BitVec.toNat_and]; exact Nat.and_le_left
  rw [toInt_nat (x := x &&& y) (by omega)]
  omega
theorem or_lt {x y : Int32} (n : Nat) (hn : n ≤ 30) (hx : 0 ≤ x.toInt ∧ x.toInt < 2 ^ n) (hy : 0 ≤ y.toInt ∧ y.toInt < 2 ^ n) : 0 ≤ (x ||| y).toInt ∧ (x ||| y).toInt < 2 ^ n := by
  have h1 := nat_toInt hx.1
  have h2 := nat_toInt hy.1
  have h3 : (2 : Nat) ^ n ≤ 2 ^ 30 := Nat.pow_le_pow_right (by decide) hn
  have h3' : ((2 ^ n : Nat) : Int) = (2 : Int) ^ n := by simp
  have h4 : (x ||| y).toBitVec.toNat < 2 ^ n := by
    rw [Int32.toBitVec_or, BitVec.toNat_or]; exact Nat.or_lt_two_pow (by omega) (by omega)
  rw [toInt_nat (x := x ||| y) (by omega)]
  omega
theorem xor_lt {x y : Int32} (n : Nat) (hn : n ≤ 30) (hx : 0 ≤ x.toInt ∧ x.toInt < 2 ^ n) (hy : 0 ≤ y.toInt ∧ y.toInt < 2 ^ n) : 0 ≤ (x ^^^ y).toInt ∧ (x ^^^ y).toInt < 2 ^ n := by
  have h1 := nat_toInt hx.1
  have h2 := nat_toInt hy.1
  have h3 : (2 : Nat) ^ n ≤ 2 ^ 30 := Nat.pow_le_pow_right (by decide) hn
  have h3' : ((2 ^ n : Nat) : Int) = (2 : Int) ^ n := by simp
  have h4 : (x ^^^ y).toBitVec.toNat < 2 ^ n := by
    rw [Int32.toBitVec_xor, BitVec.toNat_xor]; exact Nat.xor_lt_two_pow (by omega) (by omega)
  rw [toInt_nat (x := x ^^^ y) (by omega)]
  omega
theorem oct_or {x y : Int32} (hx : oct x) (hy : oct y) : oct (x ||| y) := or_lt 8 (by decide) hx hy
theorem oct_xor {x y : Int32} (hx : oct x) (hy : oct y) : oct (x ^^^ y) := xor_lt 8 (by decide) hx hy
theorem of_nI {x : Int32} {n : Nat} (h : 0 ≤ x.toInt ∧ x.toInt < n) (hn : n < 2 ^ 31) : ∃ j : Nat, j < n ∧ x = nI j := vp_in_of (vp_iff.mpr h) hn
theorem shl8_d : ∀ j : Fin 256, ((nI j.val) <<< ((8 : Int32) &&& (31 : Int32))) = nI (256 * j.val) := by decide +kernel
theorem shl8_n {j : Nat} (h : j < 256) : (nI j) <<< ((8 : Int32) &&& (31 : Int32)) = nI (256 * j) := shl8_d ⟨j, h⟩
theorem shl8_rng {x : Int32} (h : oct x) : 0 ≤ (x <<< ((8 : Int32) &&& (31 : Int32))).toInt ∧ (x <<< ((8 : Int32) &&& (31 : Int32))).toInt < 2 ^ 16 := by
  obtain ⟨j, hj, rfl⟩ := of_nI (n := 256) h (by decide)
  rw [shl8_n hj, nI_toInt (by omega)]; omega
theorem word_rng {x y : Int32} (hx : oct x) (hy : oct y) : w16 (x ||| (y <<< ((8 : Int32) &&& (31 : Int32)))) := or_lt 16 (by decide) ⟨hx.1, by have := hx.2; omega⟩ (shl8_rng hy)
theorem word_rng' {x y : Int32} (hx : oct x) (hy : oct y) : w16 ((y <<< ((8 : Int32) &&& (31 : Int32))) ||| x) := or_lt 16 (by decide) (shl8_rng hy) ⟨hx.1, by have := hx.2; omega⟩
theorem shr8_rng {x : Int32} (h : w16 x) : oct (x >>> ((8 : Int32) &&& (31 : Int32))) := by
  have h1 := nat_toInt h.1
  have e : (x >>> ((8 : Int32) &&& (31 : Int32))).toBitVec = x.toBitVec.sshiftRight 8 := by
    rw [Int32.toBitVec_shiftRight]; rfl
  have hm : x.toBitVec.msb = false := by rw [BitVec.msb_eq_decide]; simp; omega
  have e2 : (x >>> ((8 : Int32) &&& (31 : Int32))).toBitVec.toNat = x.toBitVec.toNat / 256 := by
    rw [e, BitVec.sshiftRight_eq_of_msb_false hm, BitVec.toNat_ushiftRight, Nat.shiftRight_eq_div_pow]
  unfold oct
  rw [toInt_nat (by omega), e2]; omega
theorem shr1_d : ∀ j : Fin 8, 0 ≤ ((nI j.val) >>> ((1 : Int32) &&& (31 : Int32))).toInt ∧ ((nI j.val) >>> ((1 : Int32) &&& (31 : Int32))).toInt ≤ 3 := by decide +kernel
theorem shr1_rng {x : Int32} (h : 0 ≤ x.toInt ∧ x.toInt < 8) : 0 ≤ (x >>> ((1 : Int32) &&& (31 : Int32))).toInt ∧ (x >>> ((1 : Int32) &&& (31 : Int32))).toInt ≤ 3 := by
  obtain ⟨j, hj, rfl⟩ := of_nI (n := 8) h (by decide)
  exact shr1_d ⟨j, hj⟩
theorem mod8_d : ∀ j : Fin 512, 0 ≤ ((nI j.val) - (nI j.val) / (8 : Int32) * (8 : Int32)).toInt ∧ ((nI j.val) - (nI j.val) / (8 : Int32) * (8 : Int32)).toInt < 8 := by decide +kernel
theorem mod8_rng {x : Int32} (h : 0 ≤ x.toInt ∧ x.toInt < 512) : 0 ≤ (x - x / (8 : Int32) * (8 : Int32)).toInt ∧ (x - x / (8 : Int32) * (8 : Int32)).toInt < 8 := by
  obtain ⟨j, hj, rfl⟩ := of_nI (n := 512) h (by decide)
  exact mod8_d ⟨j, hj⟩
theorem bank_in2 {b x : Int32} (h : 0 ≤ b.toInt ∧ b.toInt < 8) : vp_in (((1024 : Int32) * b) + (x &&& (1023 : Int32))) 8192 := by
  rw [Int32.mul_comm]; exact bank_in h
theorem ram_in2 {b x : Int32} (h : 0 ≤ b.toInt ∧ b.toInt < 4) : vp_in (((256 : Int32) * b) + (x &&& (255 : Int32))) 1024 := by
  rw [Int32.mul_comm]; exact ram_in h
theorem n14a {x y : Int32} : 0 ≤ ((x &&& (255 : Int32)) ||| ((y &&& (1 : Int32)) <<< ((8 : Int32) &&& (31 : Int32)))).toInt ∧ ((x &&& (255 : Int32)) ||| ((y &&& (1 : Int32)) <<< ((8 : Int32) &&& (31 : Int32)))).toInt < 512 := by
  have h1 := and_lt (x := x) (k := 255) (n := 2 ^ 9) (by decide)
  have h2 := and_lt (x := y) (k := 1) (n := 2) (by decide)
  obtain ⟨j, hj, e⟩ := of_nI (n := 2) h2 (by decide)
  have h3 : 0 ≤ ((y &&& (1 : Int32)) <<< ((8 : Int32) &&& (31 : Int32))).toInt ∧ ((y &&& (1 : Int32)) <<< ((8 : Int32) &&& (31 : Int32))).toInt < 2 ^ 9 := by
    rw [e, shl8_n (by omega), nI_toInt (by omega)]; omega
  exact or_lt 9 (by decide) h1 h3
theorem n14b {x y : Int32} (hy : oct y) : 0 ≤ ((x &&& (256 : Int32)) ||| y).toInt ∧ ((x &&& (256 : Int32)) ||| y).toInt < 512 :=
  or_lt 9 (by decide) (and_lt (by decide)) ⟨hy.1, by have := hy.2; omega⟩
theorem l255 {w : Int64} : oct ((w &&& (255 : Int64)).toInt32) := by
  have e : ((w &&& (255 : Int64)).toInt32).toBitVec.toNat = w.toBitVec.toNat % 256 := by
    rw [Int64.toBitVec_toInt32, BitVec.signExtend_eq_setWidth_of_le _ (by decide), BitVec.toNat_setWidth, Int64.toBitVec_and, BitVec.toNat_and]
    show (w.toBitVec.toNat &&& 255) % 2 ^ 32 = _
    rw [show (255 : Nat) = 2 ^ 8 - 1 from rfl, Nat.and_two_pow_sub_one_eq_mod]; omega
  unfold oct
  rw [toInt_nat (by omega), e]; omega
theorem f31 {x : Int32} (h : rLo 31 ≤ x.toInt ∧ x.toInt < rHi 31) (k : Int32) (hk : 0 ≤ k.toInt ∧ k.toInt < 32) : rLo 31 ≤ (x ||| k).toInt ∧ (x ||| k).toInt < rHi 31 := or_lt 5 (by decide) h hk
theorem tima_up {x : Int32} (h : rLo 28 ≤ x.toInt ∧ x.toInt < rHi 28) (hn : ¬ x = (255 : Int32)) : rLo 28 ≤ (x + (1 : Int32)).toInt ∧ (x + (1 : Int32)).toInt < rHi 28 := by
  have h1 : 0 ≤ x.toInt ∧ x.toInt < 256 := h
  have h2 : (1 : Int32).toInt = 1 := by decide
  have h3 : (255 : Int32).toInt = 255 := by decide
  rw [ti_eq, h3] at hn
  rw [ti_add (by omega) (by omega), h2]
  show (0 : Int) ≤ _ ∧ _ < (256 : Int)
  omega
theorem ly_up {x : Int32} (h : rLo 37 ≤ x.toInt ∧ x.toInt < rHi 37) (hn : ¬ x = (153 : Int32)) : 0 ≤ (x + (1 : Int32)).toInt ∧ (x + (1 : Int32)).toInt < 154 := by
  have h1 : 0 ≤ x.toInt ∧ x.toInt < 154 := h
  have h2 : (1 : Int32).toInt = 1 := by decide
  have h3 : (153 : Int32).toInt = 153 := by decide
  rw [ti_eq, h3] at hn
  rw [ti_add (by omega) (by omega), h2]
  omega
theorem so_R_in {d : Int32} {ρ : Nat → Int32} (M0 : Mem) (a1 a2 a3 : Int32) (s_M0 : SR d ρ M0) : ok_R_in M0 a1 a2 a3 ∧ (¬ f_R_in_v M0 a1 a2 a3 = 0 → a2.toInt ≤ a1.toInt ∧ a1.toInt ≤ a3.toInt) := by
  unfold ok_R_in f_R_in_v ok_R_in_j2 ok_R_in_j1 f_R_in_j2_v f_R_in_j1_v
  refine ⟨⟨fun _ => isB_0, fun _ => ⟨fun _ => isB_0, fun _ => isB_1⟩⟩, fun h => ?_⟩
  by_cases h1 : a1 < a2
  · rw [if_pos h1] at h; exact absurd rfl h
  · by_cases h2 : a3 < a1
    · rw [if_neg h1, if_pos h2] at h; exact absurd rfl h
    · rw [ti_lt] at h1 h2; omega
theorem so_R_fails {d : Int32} {ρ : Nat → Int32} (M0 : Mem) (a1 a2 : Int32) (s_M0 : SR d ρ M0) (hp0 : ¬ a2 = 0) : ok_R_fails M0 a1 a2 ∧ SR d ρ (f_R_fails_m M0 a1 a2) ∧ (f_R_fails_v M0 a1 a2 = 0 → a1 = 0) := by
  have hj : ∀ M : Mem, ok_R_fails_j1 M := fun M => ⟨fun _ => isB_0, fun _ => isB_1⟩
  have hm : ∀ M : Mem, f_R_fails_j1_m M = M := fun M => by unfold f_R_fails_j1_m f_R_fails_j2_m; split <;> rfl
  have hv : ∀ M : Mem, ¬ M 0 0 = 0 → ¬ f_R_fails_j1_v M = 0 := fun M h => by unfold f_R_fails_j1_v f_R_fails_j2_v; rw [if_neg h]; decide
  unfold ok_R_fails f_R_fails_m f_R_fails_v
  refine ⟨⟨fun _ => hj _, fun _ => ⟨fun _ => hj _, fun _ M8 _ => hj _⟩⟩, ?_, ?_⟩
  · dsimp only; split
    · rw [hm]; exact s_M0
    · split
      · rw [hm]; exact SR.sf s_M0 (by decide) (any_rng _)
      · rw [hm]; exact s_M0
  · dsimp only; split
    · rename_i h; exact fun _ => h
    · rename_i h; split
      · exact fun hh => absurd hh (hv _ (by rw [mst_eq]; exact hp0))
      · rename_i h2; exact fun hh => absurd hh (hv _ h2)
set_option maxRecDepth 100000 in
set_option maxHeartbeats 4000000 in
theorem so_R_zeros3_l1 {d : Int32} {ρ : Nat → Int32} {Q : Mem → Prop} (hQ : ∀ (M' : Mem), SR d ρ M' → Q M') : ∀ (n : Nat) (x1 : Int32) (M2 : Mem), SR d ρ M2 → 0 ≤ (x1).toInt → (x1).toInt ≤ 8192 → 8192 < (x1).toInt + n → ok_R_zeros3_l1  n x1 M2 ∧ Q (f_R_zeros3_l1_m  n x1 M2) := by
  intro n
  induction n with
  | zero =>
    intro x1 M2 s_M2 hL0 hL1 hL2
    exact False.elim (by (try simp only [ti_le, ti_lt, Int32.reduceToInt] at *) <;> omega)
  | succ n ih =>
    intro x1 M2 s_M2 hL0 hL1 hL2
    have hK1 := ih
    show (((((8192 : Int32) ≤ x1) → True) ∧ ((¬ (8192 : Int32) ≤ x1) → vp_in x1 8192 ∧ (∀ M3 : Mem, M3 = mst M2 3 x1.toNatClampNeg (0 : Int32) → ∀ x4 : Int32, x4 = x1 + (1 : Int32) → (ok_R_zeros3_l1  n) x4 M3)))) ∧ Q ((if (8192 : Int32) ≤ x1 then M2 else let M3 : Mem := mst M2 3 x1.toNatClampNeg (0 : Int32); let x4 : Int32 := x1 + (1 : Int32); ((f_R_zeros3_l1_m  n) x4 M3)))
    (try dsimp only)
    by_cases hc2 : (8192 : Int32) ≤ x1
    · skip
      refine ps_brp hc2 ?_
      refine And.intro trivial ?_
      (try simp only [if_pos hc2])
      exact hQ _ s_M2
    · skip
      refine ps_brn hc2 ?_
      (try simp only [if_neg hc2])
      refine ps_and (by first | assumption | (rw [vp_iff]; constructor <;> ((try simp only [ti_le, ti_lt, ti_eq, Int32.reduceToInt] at *) <;> omega))) ?_
      refine ps_let ?_
      have s_M3 : SR d ρ (mst M2 3 x1.toNatClampNeg (0 : Int32)) := SR.sa s_M2 (by decide) (by decide)
      generalize e_M3 : mst M2 3 x1.toNatClampNeg (0 : Int32) = M3 at s_M3 ⊢
      refine ps_let ?_
      generalize e_x4 : x1 + (1 : Int32) = x4
      have a_x4 : x4.toInt = x1.toInt + 1 := by rw [← e_x4, ti_add (by (try simp only [ti_le, ti_lt, Int32.reduceToInt] at *) <;> omega) (by (try simp only [ti_le, ti_lt, Int32.reduceToInt] at *) <;> omega)]; rfl
      exact hK1 x4 M3 s_M3 (by first | assumption | decide | ((try simp only [ti_le, ti_lt, ti_eq, Int32.reduceToInt] at *) <;> omega)) (by first | assumption | decide | ((try simp only [ti_le, ti_lt, ti_eq, Int32.reduceToInt] at *) <;> omega)) (by first | assumption | decide | ((try simp only [ti_le, ti_lt, ti_eq, Int32.reduceToInt] at *) <;> omega))
set_option maxRecDepth 100000 in
set_option maxHeartbeats 4000000 in
theorem sq_R_zeros3 {d : Int32} {ρ : Nat → Int32} {Q : Mem → Prop} (M0 : Mem) (s_M0 : SR d ρ M0) (hQ : ∀ (M' : Mem), SR d ρ M' → Q M') : ok_R_zeros3 M0 ∧ Q (f_R_zeros3_m M0) := by
  unfold ok_R_zeros3 f_R_zeros3_m
  (try dsimp only)
  exact so_R_zeros3_l1 (d := d) (ρ := ρ) hQ 8193 (0 : Int32) M0 s_M0 (by first | assumption | decide | ((try simp only [ti_le, ti_lt, ti_eq, Int32.reduceToInt] at *) <;> omega)) (by first | assumption | decide | ((try simp only [ti_le, ti_lt, ti_eq, Int32.reduceToInt] at *) <;> omega)) (by first | assumption | decide | ((try simp only [ti_le, ti_lt, ti_eq, Int32.reduceToInt] at *) <;> omega))
theorem so_R_zeros3 {d : Int32} {ρ : Nat → Int32} (M0 : Mem) (s_M0 : SR d ρ M0) : ok_R_zeros3 M0 ∧ SR d ρ (f_R_zeros3_m M0) := sq_R_zeros3 (d := d) (ρ := ρ) (Q := fun M' => SR d ρ M') M0 s_M0  (fun _ h0 => h0)
set_option maxRecDepth 100000 in
set_option maxHeartbeats 4000000 in
theorem so_R_zeros4_l1 {d : Int32} {ρ : Nat → Int32} {Q : Mem → Prop} (hQ : ∀ (M' : Mem), SR d ρ M' → Q M') : ∀ (n : Nat) (x1 : Int32) (M2 : Mem), SR d ρ M2 → 0 ≤ (x1).toInt → (x1).toInt ≤ 1024 → 1024 < (x1).toInt + n → ok_R_zeros4_l1  n x1 M2 ∧ Q (f_R_zeros4_l1_m  n x1 M2) := by
  intro n
  induction n with
  | zero =>
    intro x1 M2 s_M2 hL0 hL1 hL2
    exact False.elim (by (try simp only [ti_le, ti_lt, Int32.reduceToInt] at *) <;> omega)
  | succ n ih =>
    intro x1 M2 s_M2 hL0 hL1 hL2
    have hK1 := ih
    show (((((1024 : Int32) ≤ x1) → True) ∧ ((¬ (1024 : Int32) ≤ x1) → vp_in x1 1024 ∧ (∀ M3 : Mem, M3 = mst M2 4 x1.toNatClampNeg (0 : Int32) → ∀ x4 : Int32, x4 = x1 + (1 : Int32) → (ok_R_zeros4_l1  n) x4 M3)))) ∧ Q ((if (1024 : Int32) ≤ x1 then M2 else let M3 : Mem := mst M2 4 x1.toNatClampNeg (0 : Int32); let x4 : Int32 := x1 + (1 : Int32); ((f_R_zeros4_l1_m  n) x4 M3)))
    (try dsimp only)
    by_cases hc2 : (1024 : Int32) ≤ x1
    · skip
      refine ps_brp hc2 ?_
      refine And.intro trivial ?_
      (try simp only [if_pos hc2])
      exact hQ _ s_M2
    · skip
      refine ps_brn hc2 ?_
      (try simp only [if_neg hc2])
      refine ps_and (by first | assumption | (rw [vp_iff]; constructor <;> ((try simp only [ti_le, ti_lt, ti_eq, Int32.reduceToInt] at *) <;> omega))) ?_
      refine ps_let ?_
      have s_M3 : SR d ρ (mst M2 4 x1.toNatClampNeg (0 : Int32)) := SR.sa s_M2 (by decide) (by decide)
      generalize e_M3 : mst M2 4 x1.toNatClampNeg (0 : Int32) = M3 at s_M3 ⊢
      refine ps_let ?_
      generalize e_x4 : x1 + (1 : Int32) = x4
      have a_x4 : x4.toInt = x1.toInt + 1 := by rw [← e_x4, ti_add (by (try simp only [ti_le, ti_lt, Int32.reduceToInt] at *) <;> omega) (by (try simp only [ti_le, ti_lt, Int32.reduceToInt] at *) <;> omega)]; rfl
      exact hK1 x4 M3 s_M3 (by first | assumption | decide | ((try simp only [ti_le, ti_lt, ti_eq, Int32.reduceToInt] at *) <;> omega)) (by first | assumption | decide | ((try simp only [ti_le, ti_lt, ti_eq, Int32.reduceToInt] at *) <;> omega)) (by first | assumption | decide | ((try simp only [ti_le, ti_lt, ti_eq, Int32.reduceToInt] at *) <;> omega))
set_option maxRecDepth 100000 in
set_option maxHeartbeats 4000000 in
theorem sq_R_zeros4 {d : Int32} {ρ : Nat → Int32} {Q : Mem → Prop} (M0 : Mem) (s_M0 : SR d ρ M0) (hQ : ∀ (M' : Mem), SR d ρ M' → Q M') : ok_R_zeros4 M0 ∧ Q (f_R_zeros4_m M0) := by
  unfold ok_R_zeros4 f_R_zeros4_m
  (try dsimp only)
  exact so_R_zeros4_l1 (d := d) (ρ := ρ) hQ 1025 (0 : Int32) M0 s_M0 (by first | assumption | decide | ((try simp only [ti_le, ti_lt, ti_eq, Int32.reduceToInt] at *) <;> omega)) (by first | assumption | decide | ((try simp only [ti_le, ti_lt, ti_eq, Int32.reduceToInt] at *) <;> omega)) (by first | assumption | decide | ((try simp only [ti_le, ti_lt, ti_eq, Int32.reduceToInt] at *) <;> omega))
theorem so_R_zeros4 {d : Int32} {ρ : Nat → Int32} (M0 : Mem) (s_M0 : SR d ρ M0) : ok_R_zeros4 M0 ∧ SR d ρ (f_R_zeros4_m M0) := sq_R_zeros4 (d := d) (ρ := ρ) (Q := fun M' => SR d ρ M') M0 s_M0  (fun _ h0 => h0)
set_option maxRecDepth 100000 in
set_option maxHeartbeats 4000000 in
theorem so_R_zeros5_l1 {d : Int32} {ρ : Nat → Int32} {Q : Mem → Prop} (hQ : ∀ (M' : Mem), SR d ρ M' → Q M') : ∀ (n : Nat) (x1 : Int32) (M2 : Mem), SR d ρ M2 → 0 ≤ (x1).toInt → (x1).toInt ≤ 160 → 160 < (x1).toInt + n → ok_R_zeros5_l1  n x1 M2 ∧ Q (f_R_zeros5_l1_m  n x1 M2) := by
  intro n
  induction n with
  | zero =>
    intro x1 M2 s_M2 hL0 hL1 hL2
    exact False.elim (by (try simp only [ti_le, ti_lt, Int32.reduceToInt] at *) <;> omega)
  | succ n ih =>
    intro x1 M2 s_M2 hL0 hL1 hL2
    have hK1 := ih
    show (((((160 : Int32) ≤ x1) → True) ∧ ((¬ (160 : Int32) ≤ x1) → vp_in x1 160 ∧ (∀ M3 : Mem, M3 = mst M2 5 x1.toNatClampNeg (0 : Int32) → ∀ x4 : Int32, x4 = x1 + (1 : Int32) → (ok_R_zeros5_l1  n) x4 M3)))) ∧ Q ((if (160 : Int32) ≤ x1 then M2 else let M3 : Mem := mst M2 5 x1.toNatClampNeg (0 : Int32); let x4 : Int32 := x1 + (1 : Int32); ((f_R_zeros5_l1_m  n) x4 M3)))
    (try dsimp only)
    by_cases hc2 : (160 : Int32) ≤ x1
    · skip
      refine ps_brp hc2 ?_
      refine And.intro trivial ?_
      (try simp only [if_pos hc2])
      exact hQ _ s_M2
    · skip
      refine ps_brn hc2 ?_
      (try simp only [if_neg hc2])
      refine ps_and (by first | assumption | (rw [vp_iff]; constructor <;> ((try simp only [ti_le, ti_lt, ti_eq, Int32.reduceToInt] at *) <;> omega))) ?_
      refine ps_let ?_
      have s_M3 : SR d ρ (mst M2 5 x1.toNatClampNeg (0 : Int32)) := SR.sa s_M2 (by decide) (by decide)
      generalize e_M3 : mst M2 5 x1.toNatClampNeg (0 : Int32) = M3 at s_M3 ⊢
      refine ps_let ?_
      generalize e_x4 : x1 + (1 : Int32) = x4
      have a_x4 : x4.toInt = x1.toInt + 1 := by rw [← e_x4, ti_add (by (try simp only [ti_le, ti_lt, Int32.reduceToInt] at *) <;> omega) (by (try simp only [ti_le, ti_lt, Int32.reduceToInt] at *) <;> omega)]; rfl
      exact hK1 x4 M3 s_M3 (by first | assumption | decide | ((try simp only [ti_le, ti_lt, ti_eq, Int32.reduceToInt] at *) <;> omega)) (by first | assumption | decide | ((try simp only [ti_le, ti_lt, ti_eq, Int32.reduceToInt] at *) <;> omega)) (by first | assumption | decide | ((try simp only [ti_le, ti_lt, ti_eq, Int32.reduceToInt] at *) <;> omega))
set_option maxRecDepth 100000 in
set_option maxHeartbeats 4000000 in
theorem sq_R_zeros5 {d : Int32} {ρ : Nat → Int32} {Q : Mem → Prop} (M0 : Mem) (s_M0 : SR d ρ M0) (hQ : ∀ (M' : Mem), SR d ρ M' → Q M') : ok_R_zeros5 M0 ∧ Q (f_R_zeros5_m M0) := by
  unfold ok_R_zeros5 f_R_zeros5_m
  (try dsimp only)
  exact so_R_zeros5_l1 (d := d) (ρ := ρ) hQ 161 (0 : Int32) M0 s_M0 (by first | assumption | decide | ((try simp only [ti_le, ti_lt, ti_eq, Int32.reduceToInt] at *) <;> omega)) (by first | assumption | decide | ((try simp only [ti_le, ti_lt, ti_eq, Int32.reduceToInt] at *) <;> omega)) (by first | assumption | decide | ((try simp only [ti_le, ti_lt, ti_eq, Int32.reduceToInt] at *) <;> omega))
theorem so_R_zeros5 {d : Int32} {ρ : Nat → Int32} (M0 : Mem) (s_M0 : SR d ρ M0) : ok_R_zeros5 M0 ∧ SR d ρ (f_R_zeros5_m M0) := sq_R_zeros5 (d := d) (ρ := ρ) (Q := fun M' => SR d ρ M') M0 s_M0  (fun _ h0 => h0)
set_option maxRecDepth 100000 in
set_option maxHeartbeats 4000000 in
theorem so_R_zeros6_l1 {d : Int32} {ρ : Nat → Int32} {Q : Mem → Prop} (hQ : ∀ (M' : Mem), SR d ρ M' → Q M') : ∀ (n : Nat) (x1 : Int32) (M2 : Mem), SR d ρ M2 → 0 ≤ (x1).toInt → (x1).toInt ≤ 127 → 127 < (x1).toInt + n → ok_R_zeros6_l1  n x1 M2 ∧ Q (f_R_zeros6_l1_m  n x1 M2) := by
  intro n
  induction n with
  | zero =>
    intro x1 M2 s_M2 hL0 hL1 hL2
    exact False.elim (by (try simp only [ti_le, ti_lt, Int32.reduceToInt] at *) <;> omega)
  | succ n ih =>
    intro x1 M2 s_M2 hL0 hL1 hL2
    have hK1 := ih
    show (((((127 : Int32) ≤ x1) → True) ∧ ((¬ (127 : Int32) ≤ x1) → vp_in x1 127 ∧ (∀ M3 : Mem, M3 = mst M2 6 x1.toNatClampNeg (0 : Int32) → ∀ x4 : Int32, x4 = x1 + (1 : Int32) → (ok_R_zeros6_l1  n) x4 M3)))) ∧ Q ((if (127 : Int32) ≤ x1 then M2 else let M3 : Mem := mst M2 6 x1.toNatClampNeg (0 : Int32); let x4 : Int32 := x1 + (1 : Int32); ((f_R_zeros6_l1_m  n) x4 M3)))
    (try dsimp only)
    by_cases hc2 : (127 : Int32) ≤ x1
    · skip
      refine ps_brp hc2 ?_
      refine And.intro trivial ?_
      (try simp only [if_pos hc2])
      exact hQ _ s_M2
    · skip
      refine ps_brn hc2 ?_
      (try simp only [if_neg hc2])
      refine ps_and (by first | assumption | (rw [vp_iff]; constructor <;> ((try simp only [ti_le, ti_lt, ti_eq, Int32.reduceToInt] at *) <;> omega))) ?_
      refine ps_let ?_
      have s_M3 : SR d ρ (mst M2 6 x1.toNatClampNeg (0 : Int32)) := SR.sa s_M2 (by decide) (by decide)
      generalize e_M3 : mst M2 6 x1.toNatClampNeg (0 : Int32) = M3 at s_M3 ⊢
      refine ps_let ?_
      generalize e_x4 : x1 + (1 : Int32) = x4
      have a_x4 : x4.toInt = x1.toInt + 1 := by rw [← e_x4, ti_add (by (try simp only [ti_le, ti_lt, Int32.reduceToInt] at *) <;> omega) (by (try simp only [ti_le, ti_lt, Int32.reduceToInt] at *) <;> omega)]; rfl
      exact hK1 x4 M3 s_M3 (by first | assumption | decide | ((try simp only [ti_le, ti_lt, ti_eq, Int32.reduceToInt] at *) <;> omega)) (by first | assumption | decide | ((try simp only [ti_le, ti_lt, ti_eq, Int32.reduceToInt] at *) <;> omega)) (by first | assumption | decide | ((try simp only [ti_le, ti_lt, ti_eq, Int32.reduceToInt] at *) <;> omega))
set_option maxRecDepth 100000 in
set_option maxHeartbeats 4000000 in
theorem sq_R_zeros6 {d : Int32} {ρ : Nat → Int32} {Q : Mem → Prop} (M0 : Mem) (s_M0 : SR d ρ M0) (hQ : ∀ (M' : Mem), SR d ρ M' → Q M') : ok_R_zeros6 M0 ∧ Q (f_R_zeros6_m M0) := by
  unfold ok_R_zeros6 f_R_zeros6_m
  (try dsimp only)
  exact so_R_zeros6_l1 (d := d) (ρ := ρ) hQ 128 (0 : Int32) M0 s_M0 (by first | assumption | decide | ((try simp only [ti_le, ti_lt, ti_eq, Int32.reduceToInt] at *) <;> omega)) (by first | assumption | decide | ((try simp only [ti_le, ti_lt, ti_eq, Int32.reduceToInt] at *) <;> omega)) (by first | assumption | decide | ((try simp only [ti_le, ti_lt, ti_eq, Int32.reduceToInt] at *) <;> omega))
theorem so_R_zeros6 {d : Int32} {ρ : Nat → Int32} (M0 : Mem) (s_M0 : SR d ρ M0) : ok_R_zeros6 M0 ∧ SR d ρ (f_R_zeros6_m M0) := sq_R_zeros6 (d := d) (ρ := ρ) (Q := fun M' => SR d ρ M') M0 s_M0  (fun _ h0 => h0)
set_option maxRecDepth 100000 in
set_option maxHeartbeats 4000000 in
theorem so_R_zeros7_l1 {d : Int32} {ρ : Nat → Int32} {Q : Mem → Prop} (hQ : ∀ (M' : Mem), SR d ρ M' → Q M') : ∀ (n : Nat) (x1 : Int32) (M2 : Mem), SR d ρ M2 → 0 ≤ (x1).toInt → (x1).toInt ≤ 160 → 160 < (x1).toInt + n → ok_R_zeros7_l1  n x1 M2 ∧ Q (f_R_zeros7_l1_m  n x1 M2) := by
  intro n
  induction n with
  | zero =>
    intro x1 M2 s_M2 hL0 hL1 hL2
    exact False.elim (by (try simp only [ti_le, ti_lt, Int32.reduceToInt] at *) <;> omega)
  | succ n ih =>
    intro x1 M2 s_M2 hL0 hL1 hL2
    have hK1 := ih
    show (((((160 : Int32) ≤ x1) → True) ∧ ((¬ (160 : Int32) ≤ x1) → vp_in x1 160 ∧ (∀ M3 : Mem, M3 = mst M2 7 x1.toNatClampNeg (0 : Int32) → ∀ x4 : Int32, x4 = x1 + (1 : Int32) → (ok_R_zeros7_l1  n) x4 M3)))) ∧ Q ((if (160 : Int32) ≤ x1 then M2 else let M3 : Mem := mst M2 7 x1.toNatClampNeg (0 : Int32); let x4 : Int32 := x1 + (1 : Int32); ((f_R_zeros7_l1_m  n) x4 M3)))
    (try dsimp only)
    by_cases hc2 : (160 : Int32) ≤ x1
    · skip
      refine ps_brp hc2 ?_
      refine And.intro trivial ?_
      (try simp only [if_pos hc2])
      exact hQ _ s_M2
    · skip
      refine ps_brn hc2 ?_
      (try simp only [if_neg hc2])
      refine ps_and (by first | assumption | (rw [vp_iff]; constructor <;> ((try simp only [ti_le, ti_lt, ti_eq, Int32.reduceToInt] at *) <;> omega))) ?_
      refine ps_let ?_
      have s_M3 : SR d ρ (mst M2 7 x1.toNatClampNeg (0 : Int32)) := SR.sl s_M2
      generalize e_M3 : mst M2 7 x1.toNatClampNeg (0 : Int32) = M3 at s_M3 ⊢
      refine ps_let ?_
      generalize e_x4 : x1 + (1 : Int32) = x4
      have a_x4 : x4.toInt = x1.toInt + 1 := by rw [← e_x4, ti_add (by (try simp only [ti_le, ti_lt, Int32.reduceToInt] at *) <;> omega) (by (try simp only [ti_le, ti_lt, Int32.reduceToInt] at *) <;> omega)]; rfl
      exact hK1 x4 M3 s_M3 (by first | assumption | decide | ((try simp only [ti_le, ti_lt, ti_eq, Int32.reduceToInt] at *) <;> omega)) (by first | assumption | decide | ((try simp only [ti_le, ti_lt, ti_eq, Int32.reduceToInt] at *) <;> omega)) (by first | assumption | decide | ((try simp only [ti_le, ti_lt, ti_eq, Int32.reduceToInt] at *) <;> omega))
set_option maxRecDepth 100000 in
set_option maxHeartbeats 4000000 in
theorem sq_R_zeros7 {d : Int32} {ρ : Nat → Int32} {Q : Mem → Prop} (M0 : Mem) (s_M0 : SR d ρ M0) (hQ : ∀ (M' : Mem), SR d ρ M' → Q M') : ok_R_zeros7 M0 ∧ Q (f_R_zeros7_m M0) := by
  unfold ok_R_zeros7 f_R_zeros7_m
  (try dsimp only)
  exact so_R_zeros7_l1 (d := d) (ρ := ρ) hQ 161 (0 : Int32) M0 s_M0 (by first | assumption | decide | ((try simp only [ti_le, ti_lt, ti_eq, Int32.reduceToInt] at *) <;> omega)) (by first | assumption | decide | ((try simp only [ti_le, ti_lt, ti_eq, Int32.reduceToInt] at *) <;> omega)) (by first | assumption | decide | ((try simp only [ti_le, ti_lt, ti_eq, Int32.reduceToInt] at *) <;> omega))
theorem so_R_zeros7 {d : Int32} {ρ : Nat → Int32} (M0 : Mem) (s_M0 : SR d ρ M0) : ok_R_zeros7 M0 ∧ SR d ρ (f_R_zeros7_m M0) := sq_R_zeros7 (d := d) (ρ := ρ) (Q := fun M' => SR d ρ M') M0 s_M0  (fun _ h0 => h0)
set_option maxRecDepth 100000 in
set_option maxHeartbeats 4000000 in
theorem sq_R_reset {d : Int32} {ρ : Nat → Int32} {Q : Mem → Prop} (M0 : Mem) (s_M0 : SR d ρ M0) (hQ : ∀ (M' : Mem), SR d ρ M' → Q M') : ok_R_reset M0 ∧ Q (f_R_reset_m M0) := by
  unfold ok_R_reset f_R_reset_m
  (try dsimp only)
  have t_ := so_R_zeros3 (d := d) (ρ := ρ) M0 s_M0 
  refine ps_and t_.1 ?_
  replace t_ := t_.2
  refine ps_let ?_
  generalize e_M1 : f_R_zeros3_m M0 = M1 at t_ ⊢
  have s_M1 := t_
  have t_ := so_R_zeros4 (d := d) (ρ := ρ) M1 s_M1 
  refine ps_and t_.1 ?_
  replace t_ := t_.2
  refine ps_let ?_
  generalize e_M2 : f_R_zeros4_m M1 = M2 at t_ ⊢
  have s_M2 := t_
  have t_ := so_R_zeros5 (d := d) (ρ := ρ) M2 s_M2 
  refine ps_and t_.1 ?_
  replace t_ := t_.2
  refine ps_let ?_
  generalize e_M3 : f_R_zeros5_m M2 = M3 at t_ ⊢
  have s_M3 := t_
  have t_ := so_R_zeros6 (d := d) (ρ := ρ) M3 s_M3 
  refine ps_and t_.1 ?_
  replace t_ := t_.2
  refine ps_let ?_
  generalize e_M4 : f_R_zeros6_m M3 = M4 at t_ ⊢
  have s_M4 := t_
  have t_ := so_R_zeros7 (d := d) (ρ := ρ) M4 s_M4 
  refine And.intro t_.1 ?_
  replace t_ := t_.2
  generalize e_M5 : f_R_zeros7_m M4 = M5 at t_ ⊢
  have s_M5 := t_
  have s_M6 : SR d ρ (mst M5 0 9 (0 : Int32)) := SR.sf s_M5 (by decide) (any_rng _)
  generalize e_M6 : mst M5 0 9 (0 : Int32) = M6 at s_M6 ⊢
  have s_M7 : SR d ρ (mst M6 0 11 (1 : Int32)) := SR.sf s_M6 (by decide) (by decide)
  generalize e_M7 : mst M6 0 11 (1 : Int32) = M7 at s_M7 ⊢
  have s_M8 : SR d ρ (mst M7 0 12 (0 : Int32)) := SR.sf s_M7 (by decide) (by decide)
  generalize e_M8 : mst M7 0 12 (0 : Int32) = M8 at s_M8 ⊢
  have s_M9 : SR d ρ (mst M8 0 13 (0 : Int32)) := SR.sf s_M8 (by decide) (any_rng _)
  generalize e_M9 : mst M8 0 13 (0 : Int32) = M9 at s_M9 ⊢
  have s_M10 : SR d ρ (mst M9 0 14 (1 : Int32)) := SR.sf s_M9 (by decide) (by decide)
  generalize e_M10 : mst M9 0 14 (1 : Int32) = M10 at s_M10 ⊢
  have s_M11 : SR d ρ (mst M10 0 15 (0 : Int32)) := SR.sf s_M10 (by decide) (by decide)
  generalize e_M11 : mst M10 0 15 (0 : Int32) = M11 at s_M11 ⊢
  have s_M12 : SR d ρ (mst M11 0 16 (1 : Int32)) := SR.sf s_M11 (by decide) (by decide)
  generalize e_M12 : mst M11 0 16 (1 : Int32) = M12 at s_M12 ⊢
  have s_M13 : SR d ρ (mst M12 8 7 (1 : Int32)) := SR.sr s_M12 (by decide)
  generalize e_M13 : mst M12 8 7 (1 : Int32) = M13 at s_M13 ⊢
  have s_M14 : SR d ρ (mst M13 8 6 (176 : Int32)) := SR.sr s_M13 (by decide)
  generalize e_M14 : mst M13 8 6 (176 : Int32) = M14 at s_M14 ⊢
  have s_M15 : SR d ρ (mst M14 8 0 (0 : Int32)) := SR.sr s_M14 (by decide)
  generalize e_M15 : mst M14 8 0 (0 : Int32) = M15 at s_M15 ⊢
  have s_M16 : SR d ρ (mst M15 8 1 (19 : Int32)) := SR.sr s_M15 (by decide)
  generalize e_M16 : mst M15 8 1 (19 : Int32) = M16 at s_M16 ⊢
  have s_M17 : SR d ρ (mst M16 8 2 (0 : Int32)) := SR.sr s_M16 (by decide)
  generalize e_M17 : mst M16 8 2 (0 : Int32) = M17 at s_M17 ⊢
  have s_M18 : SR d ρ (mst M17 8 3 (216 : Int32)) := SR.sr s_M17 (by decide)
  generalize e_M18 : mst M17 8 3 (216 : Int32) = M18 at s_M18 ⊢
  have s_M19 : SR d ρ (mst M18 8 4 (1 : Int32)) := SR.sr s_M18 (by decide)
  generalize e_M19 : mst M18 8 4 (1 : Int32) = M19 at s_M19 ⊢
  have s_M20 : SR d ρ (mst M19 8 5 (77 : Int32)) := SR.sr s_M19 (by decide)
  generalize e_M20 : mst M19 8 5 (77 : Int32) = M20 at s_M20 ⊢
  have s_M21 : SR d ρ (mst M20 0 18 (65534 : Int32)) := SR.sf s_M20 (by decide) (by decide)
  generalize e_M21 : mst M20 0 18 (65534 : Int32) = M21 at s_M21 ⊢
  have s_M22 : SR d ρ (mst M21 0 19 (256 : Int32)) := SR.sf s_M21 (by decide) (by decide)
  generalize e_M22 : mst M21 0 19 (256 : Int32) = M22 at s_M22 ⊢
  have s_M23 : SR d ρ (mst M22 0 21 (0 : Int32)) := SR.sf s_M22 (by decide) (any_rng _)
  generalize e_M23 : mst M22 0 21 (0 : Int32) = M23 at s_M23 ⊢
  have s_M24 : SR d ρ (mst M23 0 22 (0 : Int32)) := SR.sf s_M23 (by decide) (any_rng _)
  generalize e_M24 : mst M23 0 22 (0 : Int32) = M24 at s_M24 ⊢
  have s_M25 : SR d ρ (mst M24 0 23 (0 : Int32)) := SR.sf s_M24 (by decide) (any_rng _)
  generalize e_M25 : mst M24 0 23 (0 : Int32) = M25 at s_M25 ⊢
  have s_M26 : SR d ρ (mst M25 0 24 (0 : Int32)) := SR.sf s_M25 (by decide) (any_rng _)
  generalize e_M26 : mst M25 0 24 (0 : Int32) = M26 at s_M26 ⊢
  have s_M27 : SR d ρ (mst M26 0 26 (0 : Int32)) := SR.sf s_M26 (by decide) (by decide)
  generalize e_M27 : mst M26 0 26 (0 : Int32) = M27 at s_M27 ⊢
  have s_M28 : SR d ρ (mst M27 0 27 (0 : Int32)) := SR.sf s_M27 (by decide) (by decide)
  generalize e_M28 : mst M27 0 27 (0 : Int32) = M28 at s_M28 ⊢
  have s_M29 : SR d ρ (mst M28 0 28 (0 : Int32)) := SR.sf s_M28 (by decide) (by decide)
  generalize e_M29 : mst M28 0 28 (0 : Int32) = M29 at s_M29 ⊢
  have s_M30 : SR d ρ (mst M29 0 29 (0 : Int32)) := SR.sf s_M29 (by decide) (by decide)
  generalize e_M30 : mst M29 0 29 (0 : Int32) = M30 at s_M30 ⊢
  have s_M31 : SR d ρ (mst M30 0 30 (0 : Int32)) := SR.sf s_M30 (by decide) (by decide)
  generalize e_M31 : mst M30 0 30 (0 : Int32) = M31 at s_M31 ⊢
  have s_M32 : SR d ρ (mst M31 0 31 (1 : Int32)) := SR.sf s_M31 (by decide) (by decide)
  generalize e_M32 : mst M31 0 31 (1 : Int32) = M32 at s_M32 ⊢
  have s_M33 : SR d ρ (mst M32 0 32 (0 : Int32)) := SR.sf s_M32 (by decide) (by decide)
  generalize e_M33 : mst M32 0 32 (0 : Int32) = M33 at s_M33 ⊢
  have s_M34 : SR d ρ (mst M33 0 33 (145 : Int32)) := SR.sf s_M33 (by decide) (by decide)
  generalize e_M34 : mst M33 0 33 (145 : Int32) = M34 at s_M34 ⊢
  have s_M35 : SR d ρ (mst M34 0 34 (0 : Int32)) := SR.sf s_M34 (by decide) (by decide)
  generalize e_M35 : mst M34 0 34 (0 : Int32) = M35 at s_M35 ⊢
  have s_M36 : SR d ρ (mst M35 0 35 (0 : Int32)) := SR.sf s_M35 (by decide) (by decide)
  generalize e_M36 : mst M35 0 35 (0 : Int32) = M36 at s_M36 ⊢
  have s_M37 : SR d ρ (mst M36 0 36 (0 : Int32)) := SR.sf s_M36 (by decide) (by decide)
  generalize e_M37 : mst M36 0 36 (0 : Int32) = M37 at s_M37 ⊢
  have s_M38 : SR d ρ (mst M37 0 37 (0 : Int32)) := SR.sf s_M37 (by decide) (by decide)
  generalize e_M38 : mst M37 0 37 (0 : Int32) = M38 at s_M38 ⊢
  have s_M39 : SR d ρ (mst M38 0 38 (0 : Int32)) := SR.sf s_M38 (by decide) (by decide)
  generalize e_M39 : mst M38 0 38 (0 : Int32) = M39 at s_M39 ⊢
  have s_M40 : SR d ρ (mst M39 0 39 (0 : Int32)) := SR.sf s_M39 (by decide) (by decide)
  generalize e_M40 : mst M39 0 39 (0 : Int32) = M40 at s_M40 ⊢
  have s_M41 : SR d ρ (mst M40 0 40 (252 : Int32)) := SR.sf s_M40 (by decide) (by decide)
  generalize e_M41 : mst M40 0 40 (252 : Int32) = M41 at s_M41 ⊢
  have s_M42 : SR d ρ (mst M41 0 41 (0 : Int32)) := SR.sf s_M41 (by decide) (by decide)
  generalize e_M42 : mst M41 0 41 (0 : Int32) = M42 at s_M42 ⊢
  have s_M43 : SR d ρ (mst M42 0 42 (0 : Int32)) := SR.sf s_M42 (by decide) (by decide)
  generalize e_M43 : mst M42 0 42 (0 : Int32) = M43 at s_M43 ⊢
  have s_M44 : SR d ρ (mst M43 0 43 (0 : Int32)) := SR.sf s_M43 (by decide) (by decide)
  generalize e_M44 : mst M43 0 43 (0 : Int32) = M44 at s_M44 ⊢
  have s_M45 : SR d ρ (mst M44 0 44 (0 : Int32)) := SR.sf s_M44 (by decide) (by decide)
  generalize e_M45 : mst M44 0 44 (0 : Int32) = M45 at s_M45 ⊢
  have s_M46 : SR d ρ (mst M45 0 45 (0 : Int32)) := SR.sf s_M45 (by decide) (any_rng _)
  generalize e_M46 : mst M45 0 45 (0 : Int32) = M46 at s_M46 ⊢
  have s_M47 : SR d ρ (mst M46 0 46 (0 : Int32)) := SR.sf s_M46 (by decide) (any_rng _)
  generalize e_M47 : mst M46 0 46 (0 : Int32) = M47 at s_M47 ⊢
  have s_M48 : SR d ρ (mst M47 0 47 (0 : Int32)) := SR.sf s_M47 (by decide) (any_rng _)
  generalize e_M48 : mst M47 0 47 (0 : Int32) = M48 at s_M48 ⊢
  have s_M49 : SR d ρ (mst M48 0 48 (0 : Int32)) := SR.sf s_M48 (by decide) (any_rng _)
  generalize e_M49 : mst M48 0 48 (0 : Int32) = M49 at s_M49 ⊢
  have s_M50 : SR d ρ (mst M49 0 49 (0 : Int32)) := SR.sf s_M49 (by decide) (any_rng _)
  generalize e_M50 : mst M49 0 49 (0 : Int32) = M50 at s_M50 ⊢
  have s_M51 : SR d ρ (mst M50 0 50 (0 : Int32)) := SR.sf s_M50 (by decide) (any_rng _)
  generalize e_M51 : mst M50 0 50 (0 : Int32) = M51 at s_M51 ⊢
  exact hQ _ s_M51
theorem so_R_reset {d : Int32} {ρ : Nat → Int32} (M0 : Mem) (s_M0 : SR d ρ M0) : ok_R_reset M0 ∧ SR d ρ (f_R_reset_m M0) := sq_R_reset (d := d) (ρ := ρ) (Q := fun M' => SR d ρ M') M0 s_M0  (fun _ h0 => h0)
set_option maxRecDepth 100000 in
set_option maxHeartbeats 4000000 in
theorem so_R_bankHigh_j1 {d : Int32} {ρ : Nat → Int32} {Q : Int32 → Prop} (x2 : Int32) (hp0 : 0 ≤ (x2).toInt ∧ (x2).toInt < 8) (hQ : ∀ (x : Int32), 0 ≤ (x).toInt ∧ (x).toInt < 8 → Q x) : Q (f_R_bankHigh_j1_v x2) := by
  unfold f_R_bankHigh_j1_v
  (try dsimp only)
  exact hQ _ (by first | assumption | decide | (constructor <;> ((try simp only [ti_le, ti_lt, ti_eq, Int32.reduceToInt] at *) <;> omega)))
set_option maxRecDepth 100000 in
set_option maxHeartbeats 4000000 in
theorem so_R_bankHigh_j2 {d : Int32} {ρ : Nat → Int32} {Q : Int32 → Prop} (hQ : ∀ (x : Int32), 0 ≤ (x).toInt ∧ (x).toInt < 8 → Q x) : Q (f_R_bankHigh_j2_v ) := by
  unfold f_R_bankHigh_j2_v
  (try dsimp only)
  exact so_R_bankHigh_j1 (d := d) (ρ := ρ) (1 : Int32) (by first | assumption | exact by decide) hQ
set_option maxRecDepth 100000 in
set_option maxHeartbeats 4000000 in
theorem sq_R_bankHigh {d : Int32} {ρ : Nat → Int32} {Q : Int32 → Prop} (M0 : Mem) (s_M0 : SR d ρ M0) (hQ : ∀ (x : Int32), 0 ≤ (x).toInt ∧ (x).toInt < 8 → Q x) : Q (f_R_bankHigh_v M0) := by
  unfold f_R_bankHigh_v
  (try dsimp only)
  by_cases hc1 : (M0 0 8) = 0
  · skip
    (try simp only [if_pos hc1])
    exact so_R_bankHigh_j2 (d := d) (ρ := ρ) hQ
  · skip
    (try simp only [if_neg hc1])
    by_cases hc2 : (M0 0 10) = 0
    · skip
      (try simp only [if_pos hc2])
      exact so_R_bankHigh_j2 (d := d) (ρ := ρ) hQ
    · skip
      (try simp only [if_neg hc2])
      by_cases hc3 : (M0 0 10) = (1 : Int32)
      · skip
        (try simp only [if_pos hc3])
        exact so_R_bankHigh_j1 (d := d) (ρ := ρ) ((M0 0 11) - (M0 0 11) / (8 : Int32) * (8 : Int32)) (by first | assumption | exact mod8_rng ⟨(s_M0.f 11).1, Int.lt_of_lt_of_le (s_M0.f 11).2 (by decide)⟩) hQ
      · skip
        (try simp only [if_neg hc3])
        by_cases hc4 : (M0 0 10) = (2 : Int32)
        · skip
          (try simp only [if_pos hc4])
          exact so_R_bankHigh_j1 (d := d) (ρ := ρ) (M0 0 16) (by first | assumption | exact s_M0.f 16) hQ
        · skip
          (try simp only [if_neg hc4])
          exact so_R_bankHigh_j1 (d := d) (ρ := ρ) ((M0 0 14) - (M0 0 14) / (8 : Int32) * (8 : Int32)) (by first | assumption | exact mod8_rng ⟨(s_M0.f 14).1, Int.lt_of_lt_of_le (s_M0.f 14).2 (by decide)⟩) hQ
theorem so_R_bankHigh {d : Int32} {ρ : Nat → Int32} (M0 : Mem) (s_M0 : SR d ρ M0) : 0 ≤ ((f_R_bankHigh_v M0)).toInt ∧ ((f_R_bankHigh_v M0)).toInt < 8 := sq_R_bankHigh (d := d) (ρ := ρ) (Q := fun x => 0 ≤ (x).toInt ∧ (x).toInt < 8) M0 s_M0  (fun _ h1 => h1)
set_option maxRecDepth 100000 in
set_option maxHeartbeats 4000000 in
theorem so_R_bankRam_j1 {d : Int32} {ρ : Nat → Int32} {Q : Int32 → Prop} (x2 : Int32) (hp0 : 0 ≤ (x2).toInt ∧ (x2).toInt < 4) (hQ : ∀ (x : Int32), 0 ≤ (x).toInt ∧ (x).toInt < 4 → Q x) : Q (f_R_bankRam_j1_v x2) := by
  unfold f_R_bankRam_j1_v
  (try dsimp only)
  exact hQ _ (by first | assumption | decide | (constructor <;> ((try simp only [ti_le, ti_lt, ti_eq, Int32.reduceToInt] at *) <;> omega)))
set_option maxRecDepth 100000 in
set_option maxHeartbeats 4000000 in
theorem sq_R_bankRam {d : Int32} {ρ : Nat → Int32} {Q : Int32 → Prop} (M0 : Mem) (s_M0 : SR d ρ M0) (hQ : ∀ (x : Int32), 0 ≤ (x).toInt ∧ (x).toInt < 4 → Q x) : Q (f_R_bankRam_v M0) := by
  unfold f_R_bankRam_v
  (try dsimp only)
  by_cases hc1 : (M0 0 10) = (1 : Int32)
  · skip
    (try simp only [if_pos hc1])
    by_cases hc2 : (M0 0 13) = (1 : Int32)
    · skip
      (try simp only [if_pos hc2])
      exact so_R_bankRam_j1 (d := d) (ρ := ρ) (M0 0 12) (by first | assumption | exact s_M0.f 12) hQ
    · skip
      (try simp only [if_neg hc2])
      exact so_R_bankRam_j1 (d := d) (ρ := ρ) (0 : Int32) (by first | assumption | exact by decide) hQ
  · skip
    (try simp only [if_neg hc1])
    by_cases hc2 : (M0 0 10) = (3 : Int32)
    · skip
      (try simp only [if_pos hc2])
      exact so_R_bankRam_j1 (d := d) (ρ := ρ) (M0 0 15) (by first | assumption | exact s_M0.f 15) hQ
    · skip
      (try simp only [if_neg hc2])
      exact so_R_bankRam_j1 (d := d) (ρ := ρ) (0 : Int32) (by first | assumption | exact by decide) hQ
theorem so_R_bankRam {d : Int32} {ρ : Nat → Int32} (M0 : Mem) (s_M0 : SR d ρ M0) : 0 ≤ ((f_R_bankRam_v M0)).toInt ∧ ((f_R_bankRam_v M0)).toInt < 4 := sq_R_bankRam (d := d) (ρ := ρ) (Q := fun x => 0 ≤ (x).toInt ∧ (x).toInt < 4) M0 s_M0  (fun _ h1 => h1)
set_option maxRecDepth 100000 in
set_option maxHeartbeats 4000000 in
theorem so_R_hasRam_j1 {d : Int32} {ρ : Nat → Int32} {Q : Int32 → Prop} (x2 : Int32) (hp0 : isB x2) (hQ : ∀ (x : Int32), Q x) : ok_R_hasRam_j1 x2 ∧ Q (f_R_hasRam_j1_v x2) := by
  unfold ok_R_hasRam_j1 f_R_hasRam_j1_v
  (try dsimp only)
  refine And.intro (by assumption) ?_
  exact hQ _
set_option maxRecDepth 100000 in
set_option maxHeartbeats 4000000 in
theorem so_R_hasRam_j2 {d : Int32} {ρ : Nat → Int32} {Q : Int32 → Prop} (hQ : ∀ (x : Int32), Q x) : ok_R_hasRam_j2  ∧ Q (f_R_hasRam_j2_v ) := by
  unfold ok_R_hasRam_j2 f_R_hasRam_j2_v
  (try dsimp only)
  exact so_R_hasRam_j1 (d := d) (ρ := ρ) (0 : Int32) (by exact isB_0) hQ
set_option maxRecDepth 100000 in
set_option maxHeartbeats 4000000 in
theorem so_R_hasRam_j3 {d : Int32} {ρ : Nat → Int32} {Q : Int32 → Prop} (hQ : ∀ (x : Int32), Q x) : ok_R_hasRam_j3  ∧ Q (f_R_hasRam_j3_v ) := by
  unfold ok_R_hasRam_j3 f_R_hasRam_j3_v
  (try dsimp only)
  exact so_R_hasRam_j1 (d := d) (ρ := ρ) (1 : Int32) (by exact isB_1) hQ
set_option maxRecDepth 100000 in
set_option maxHeartbeats 4000000 in
theorem sq_R_hasRam {d : Int32} {ρ : Nat → Int32} {Q : Int32 → Prop} (M0 : Mem) (s_M0 : SR d ρ M0) (hQ : ∀ (x : Int32), Q x) : ok_R_hasRam M0 ∧ Q (f_R_hasRam_v M0) := by
  unfold ok_R_hasRam f_R_hasRam_v
  (try dsimp only)
  by_cases hc1 : (M0 0 8) = 0
  · skip
    refine ps_brp hc1 ?_
    (try simp only [if_pos hc1])
    exact so_R_hasRam_j2 (d := d) (ρ := ρ) hQ
  · skip
    refine ps_brn hc1 ?_
    (try simp only [if_neg hc1])
    by_cases hc2 : (M0 0 10) = 0
    · skip
      refine ps_brp hc2 ?_
      (try simp only [if_pos hc2])
      exact so_R_hasRam_j3 (d := d) (ρ := ρ) hQ
    · skip
      refine ps_brn hc2 ?_
      (try simp only [if_neg hc2])
      by_cases hc3 : (M0 0 9) = 0
      · skip
        refine ps_brp hc3 ?_
        (try simp only [if_pos hc3])
        exact so_R_hasRam_j2 (d := d) (ρ := ρ) hQ
      · skip
        refine ps_brn hc3 ?_
        (try simp only [if_neg hc3])
        exact so_R_hasRam_j3 (d := d) (ρ := ρ) hQ
theorem so_R_hasRam {d : Int32} {ρ : Nat → Int32} (M0 : Mem) (s_M0 : SR d ρ M0) : ok_R_hasRam M0 ∧ True := sq_R_hasRam (d := d) (ρ := ρ) (Q := fun _ => True) M0 s_M0  (fun _ => trivial)
set_option maxRecDepth 100000 in
set_option maxHeartbeats 4000000 in
theorem so_R_controls_j1 {d : Int32} {ρ : Nat → Int32} {Q : Mem → Prop} (M0 : Mem) (s_M0 : SR d ρ M0) (hQ : ∀ (M' : Mem), SR d ρ M' → Q M') : Q (f_R_controls_j1_m M0) := by
  unfold f_R_controls_j1_m
  (try dsimp only)
  exact hQ _ s_M0
set_option maxRecDepth 100000 in
set_option maxHeartbeats 4000000 in
theorem so_R_controls_j2 {d : Int32} {ρ : Nat → Int32} {Q : Mem → Prop} (M61 : Mem) (s_M61 : SR d ρ M61) (hQ : ∀ (M' : Mem), SR d ρ M' → Q M') : Q (f_R_controls_j2_m M61) := by
  unfold f_R_controls_j2_m
  (try dsimp only)
  exact hQ _ s_M61
set_option maxRecDepth 100000 in
set_option maxHeartbeats 4000000 in
theorem so_R_controls_j3 {d : Int32} {ρ : Nat → Int32} {Q : Mem → Prop} (M0 : Mem) (x69 : Int32) (s_M0 : SR d ρ M0) (hp0 : 0 ≤ (x69).toInt ∧ (x69).toInt < 32) (hQ : ∀ (M' : Mem), SR d ρ M' → Q M') : Q (f_R_controls_j3_m M0 x69) := by
  unfold f_R_controls_j3_m
  (try dsimp only)
  have s_M70 : SR d ρ (mst M0 0 11 x69) := SR.sf s_M0 (by decide) (by assumption)
  generalize e_M70 : mst M0 0 11 x69 = M70 at s_M70 ⊢
  exact so_R_controls_j2 (d := d) (ρ := ρ) M70 s_M70 hQ
set_option maxRecDepth 100000 in
set_option maxHeartbeats 4000000 in
theorem so_R_controls_j4 {d : Int32} {ρ : Nat → Int32} {Q : Mem → Prop} (M0 : Mem) (x73 : Int32) (s_M0 : SR d ρ M0) (hp0 : isB x73) (hQ : ∀ (M' : Mem), SR d ρ M' → Q M') : ok_R_controls_j4 M0 x73 ∧ Q (f_R_controls_j4_m M0 x73) := by
  unfold ok_R_controls_j4 f_R_controls_j4_m
  (try dsimp only)
  refine And.intro (by assumption) ?_
  have s_M74 : SR d ρ (mst M0 0 9 x73) := SR.sf s_M0 (by decide) (any_rng _)
  generalize e_M74 : mst M0 0 9 x73 = M74 at s_M74 ⊢
  exact so_R_controls_j2 (d := d) (ρ := ρ) M74 s_M74 hQ
set_option maxRecDepth 100000 in
set_option maxHeartbeats 4000000 in
theorem so_R_controls_j5 {d : Int32} {ρ : Nat → Int32} {Q : Mem → Prop} (M84 : Mem) (s_M84 : SR d ρ M84) (hQ : ∀ (M' : Mem), SR d ρ M' → Q M') : Q (f_R_controls_j5_m M84) := by
  unfold f_R_controls_j5_m
  (try dsimp only)
  exact hQ _ s_M84
set_option maxRecDepth 100000 in
set_option maxHeartbeats 4000000 in
theorem so_R_controls_j6 {d : Int32} {ρ : Nat → Int32} {Q : Mem → Prop} (M0 : Mem) (x87 : Int32) (s_M0 : SR d ρ M0) (hp0 : 0 ≤ (x87).toInt ∧ (x87).toInt < 512) (hQ : ∀ (M' : Mem), SR d ρ M' → Q M') : Q (f_R_controls_j6_m M0 x87) := by
  unfold f_R_controls_j6_m
  (try dsimp only)
  have s_M88 : SR d ρ (mst M0 0 16 (x87 - x87 / (8 : Int32) * (8 : Int32))) := SR.sf s_M0 (by decide) (mod8_rng (by assumption))
  generalize e_M88 : mst M0 0 16 (x87 - x87 / (8 : Int32) * (8 : Int32)) = M88 at s_M88 ⊢
  exact so_R_controls_j5 (d := d) (ρ := ρ) M88 s_M88 hQ
set_option maxRecDepth 100000 in
set_option maxHeartbeats 4000000 in
theorem so_R_controls_j7 {d : Int32} {ρ : Nat → Int32} {Q : Mem → Prop} (M0 : Mem) (x91 : Int32) (s_M0 : SR d ρ M0) (hp0 : isB x91) (hQ : ∀ (M' : Mem), SR d ρ M' → Q M') : ok_R_controls_j7 M0 x91 ∧ Q (f_R_controls_j7_m M0 x91) := by
  unfold ok_R_controls_j7 f_R_controls_j7_m
  (try dsimp only)
  refine And.intro (by assumption) ?_
  have s_M92 : SR d ρ (mst M0 0 9 x91) := SR.sf s_M0 (by decide) (any_rng _)
  generalize e_M92 : mst M0 0 9 x91 = M92 at s_M92 ⊢
  exact so_R_controls_j5 (d := d) (ρ := ρ) M92 s_M92 hQ
set_option maxRecDepth 100000 in
set_option maxHeartbeats 4000000 in
theorem sq_R_controls {d : Int32} {ρ : Nat → Int32} {Q : Mem → Prop} (M0 : Mem) (a1 : Int32) (a2 : Int32) (s_M0 : SR d ρ M0) (hp0 : 0 ≤ (a2).toInt ∧ (a2).toInt < 256) (hQ : ∀ (M' : Mem), SR d ρ M' → Q M') : ok_R_controls M0 a1 a2 ∧ Q (f_R_controls_m M0 a1 a2) := by
  unfold ok_R_controls f_R_controls_m
  (try dsimp only)
  by_cases hc1 : (M0 0 8) = 0
  · skip
    refine ps_brp hc1 ?_
    refine And.intro trivial ?_
    (try simp only [if_pos hc1])
    exact so_R_controls_j1 (d := d) (ρ := ρ) M0 s_M0 hQ
  · skip
    refine ps_brn hc1 ?_
    (try simp only [if_neg hc1])
    by_cases hc2 : (M0 0 10) = 0
    · skip
      refine ps_nrp hc2 ?_
      refine And.intro trivial ?_
      (try simp only [if_pos hc2])
      exact so_R_controls_j1 (d := d) (ρ := ρ) M0 s_M0 hQ
    · skip
      refine ps_nrn hc2 ?_
      (try simp only [if_neg hc2])
      by_cases hc3 : (M0 0 10) = (2 : Int32)
      · skip
        refine ps_nrp hc3 ?_
        (try simp only [if_pos hc3])
        by_cases hc4 : a1 < (16384 : Int32)
        · skip
          refine ps_brp hc4 ?_
          (try simp only [if_pos hc4])
          by_cases hc5 : (a1 &&& (256 : Int32)) = 0
          · skip
            refine ps_nrp hc5 ?_
            (try simp only [if_pos hc5])
            by_cases hc6 : (a2 &&& (15 : Int32)) = (10 : Int32)
            · skip
              refine ps_nrp hc6 ?_
              (try simp only [if_pos hc6])
              exact so_R_controls_j7 (d := d) (ρ := ρ) M0 (1 : Int32) s_M0 (by exact isB_1) hQ
            · skip
              refine ps_nrn hc6 ?_
              (try simp only [if_neg hc6])
              exact so_R_controls_j7 (d := d) (ρ := ρ) M0 (0 : Int32) s_M0 (by exact isB_0) hQ
          · skip
            refine ps_nrn hc5 ?_
            refine And.intro trivial ?_
            (try simp only [if_neg hc5])
            by_cases hc6 : (a2 &&& (15 : Int32)) = 0
            · skip
              (try simp only [if_pos hc6])
              exact so_R_controls_j6 (d := d) (ρ := ρ) M0 (1 : Int32) s_M0 (by first | assumption | exact by decide) hQ
            · skip
              (try simp only [if_neg hc6])
              exact so_R_controls_j6 (d := d) (ρ := ρ) M0 (a2 &&& (15 : Int32)) s_M0 (by first | assumption | exact and_lt (by decide)) hQ
        · skip
          refine ps_brn hc4 ?_
          refine And.intro trivial ?_
          (try simp only [if_neg hc4])
          exact hQ _ s_M0
      · skip
        refine ps_nrn hc3 ?_
        (try simp only [if_neg hc3])
        by_cases hc4 : (8192 : Int32) ≤ a1
        · skip
          refine ps_brp hc4 ?_
          refine And.intro trivial ?_
          (try simp only [if_pos hc4])
          by_cases hc5 : (M0 0 10) = (1 : Int32)
          · skip
            (try simp only [if_pos hc5])
            by_cases hc6 : (16384 : Int32) ≤ a1
            · skip
              (try simp only [if_pos hc6])
              by_cases hc7 : (24576 : Int32) ≤ a1
              · skip
                (try simp only [if_pos hc7])
                have s_M65 : SR d ρ (mst M0 0 13 (a2 &&& (1 : Int32))) := SR.sf s_M0 (by decide) (any_rng _)
                generalize e_M65 : mst M0 0 13 (a2 &&& (1 : Int32)) = M65 at s_M65 ⊢
                exact so_R_controls_j2 (d := d) (ρ := ρ) M65 s_M65 hQ
              · skip
                (try simp only [if_neg hc7])
                have s_M66 : SR d ρ (mst M0 0 12 (a2 &&& (3 : Int32))) := SR.sf s_M0 (by decide) (and_lt (by decide))
                generalize e_M66 : mst M0 0 12 (a2 &&& (3 : Int32)) = M66 at s_M66 ⊢
                exact so_R_controls_j2 (d := d) (ρ := ρ) M66 s_M66 hQ
            · skip
              (try simp only [if_neg hc6])
              by_cases hc7 : (a2 &&& (31 : Int32)) = 0
              · skip
                (try simp only [if_pos hc7])
                exact so_R_controls_j3 (d := d) (ρ := ρ) M0 (1 : Int32) s_M0 (by first | assumption | exact by decide) hQ
              · skip
                (try simp only [if_neg hc7])
                exact so_R_controls_j3 (d := d) (ρ := ρ) M0 (a2 &&& (31 : Int32)) s_M0 (by first | assumption | exact and_lt (by decide)) hQ
          · skip
            (try simp only [if_neg hc5])
            by_cases hc6 : (12288 : Int32) ≤ a1
            · skip
              (try simp only [if_pos hc6])
              by_cases hc7 : (16384 : Int32) ≤ a1
              · skip
                (try simp only [if_pos hc7])
                by_cases hc8 : (24576 : Int32) ≤ a1
                · skip
                  (try simp only [if_pos hc8])
                  exact so_R_controls_j2 (d := d) (ρ := ρ) M0 s_M0 hQ
                · skip
                  (try simp only [if_neg hc8])
                  have s_M62 : SR d ρ (mst M0 0 15 (a2 &&& (3 : Int32))) := SR.sf s_M0 (by decide) (and_lt (by decide))
                  generalize e_M62 : mst M0 0 15 (a2 &&& (3 : Int32)) = M62 at s_M62 ⊢
                  exact so_R_controls_j2 (d := d) (ρ := ρ) M62 s_M62 hQ
              · skip
                (try simp only [if_neg hc7])
                have s_M63 : SR d ρ (mst M0 0 14 (((M0 0 14) &&& (255 : Int32)) ||| ((a2 &&& (1 : Int32)) <<< ((8 : Int32) &&& (31 : Int32))))) := SR.sf s_M0 (by decide) (n14a)
                generalize e_M63 : mst M0 0 14 (((M0 0 14) &&& (255 : Int32)) ||| ((a2 &&& (1 : Int32)) <<< ((8 : Int32) &&& (31 : Int32)))) = M63 at s_M63 ⊢
                exact so_R_controls_j2 (d := d) (ρ := ρ) M63 s_M63 hQ
            · skip
              (try simp only [if_neg hc6])
              have s_M64 : SR d ρ (mst M0 0 14 (((M0 0 14) &&& (256 : Int32)) ||| a2)) := SR.sf s_M0 (by decide) (n14b (by assumption))
              generalize e_M64 : mst M0 0 14 (((M0 0 14) &&& (256 : Int32)) ||| a2) = M64 at s_M64 ⊢
              exact so_R_controls_j2 (d := d) (ρ := ρ) M64 s_M64 hQ
        · skip
          refine ps_brn hc4 ?_
          (try simp only [if_neg hc4])
          by_cases hc5 : (a2 &&& (15 : Int32)) = (10 : Int32)
          · skip
            refine ps_nrp hc5 ?_
            (try simp only [if_pos hc5])
            exact so_R_controls_j4 (d := d) (ρ := ρ) M0 (1 : Int32) s_M0 (by exact isB_1) hQ
          · skip
            refine ps_nrn hc5 ?_
            (try simp only [if_neg hc5])
            exact so_R_controls_j4 (d := d) (ρ := ρ) M0 (0 : Int32) s_M0 (by exact isB_0) hQ
theorem so_R_controls {d : Int32} {ρ : Nat → Int32} (M0 : Mem) (a1 : Int32) (a2 : Int32) (s_M0 : SR d ρ M0) (hp0 : 0 ≤ (a2).toInt ∧ (a2).toInt < 256) : ok_R_controls M0 a1 a2 ∧ SR d ρ (f_R_controls_m M0 a1 a2) := sq_R_controls (d := d) (ρ := ρ) (Q := fun M' => SR d ρ M') M0 a1 a2 s_M0 hp0 (fun _ h0 => h0)
set_option maxRecDepth 100000 in
set_option maxHeartbeats 4000000 in
theorem so_R_state_j1 {d : Int32} {ρ : Nat → Int32} {Q : Int32 → Prop} (x2 : Int32) (hp0 : 0 ≤ (x2).toInt ∧ (x2).toInt < 4) (hQ : ∀ (x : Int32), 0 ≤ (x).toInt ∧ (x).toInt < 4 → Q x) : Q (f_R_state_j1_v x2) := by
  unfold f_R_state_j1_v
  (try dsimp only)
  exact hQ _ (by first | assumption | decide | (constructor <;> ((try simp only [ti_le, ti_lt, ti_eq, Int32.reduceToInt] at *) <;> omega)))
set_option maxRecDepth 100000 in
set_option maxHeartbeats 4000000 in
theorem sq_R_state {d : Int32} {ρ : Nat → Int32} {Q : Int32 → Prop} (M0 : Mem) (s_M0 : SR d ρ M0) (hQ : ∀ (x : Int32), 0 ≤ (x).toInt ∧ (x).toInt < 4 → Q x) : Q (f_R_state_v M0) := by
  unfold f_R_state_v
  (try dsimp only)
  by_cases hc1 : ((M0 0 33) &&& (128 : Int32)) = 0
  · skip
    (try simp only [if_pos hc1])
    exact hQ _ (by first | assumption | exact by decide)
  · skip
    (try simp only [if_neg hc1])
    by_cases hc2 : (M0 0 37) < (144 : Int32)
    · skip
      (try simp only [if_pos hc2])
      by_cases hc3 : (20 : Int32) ≤ (M0 0 45)
      · skip
        (try simp only [if_pos hc3])
        by_cases hc4 : (63 : Int32) ≤ (M0 0 45)
        · skip
          (try simp only [if_pos hc4])
          exact so_R_state_j1 (d := d) (ρ := ρ) (0 : Int32) (by first | assumption | exact by decide) hQ
        · skip
          (try simp only [if_neg hc4])
          exact so_R_state_j1 (d := d) (ρ := ρ) (3 : Int32) (by first | assumption | exact by decide) hQ
      · skip
        (try simp only [if_neg hc3])
        exact so_R_state_j1 (d := d) (ρ := ρ) (2 : Int32) (by first | assumption | exact by decide) hQ
    · skip
      (try simp only [if_neg hc2])
      exact so_R_state_j1 (d := d) (ρ := ρ) (1 : Int32) (by first | assumption | exact by decide) hQ
theorem so_R_state {d : Int32} {ρ : Nat → Int32} (M0 : Mem) (s_M0 : SR d ρ M0) : 0 ≤ ((f_R_state_v M0)).toInt ∧ ((f_R_state_v M0)).toInt < 4 := sq_R_state (d := d) (ρ := ρ) (Q := fun x => 0 ≤ (x).toInt ∧ (x).toInt < 4) M0 s_M0  (fun _ h1 => h1)
set_option maxRecDepth 100000 in
set_option maxHeartbeats 4000000 in
theorem so_R_keyBits_j1 {d : Int32} {ρ : Nat → Int32} {Q : Int32 → Prop} (x2 : Int32) (n : Nat) (K1_v : Int32 → Int32 → Int32) (K1_ok : Int32 → Int32 → Prop) (x6 : Int32) (hp0 : 0 ≤ (x6).toInt ∧ (x6).toInt < 16) (hp1 : 0 ≤ (x2).toInt) (hp2 : (x2).toInt < 4) (hp3 : 4 < (x2).toInt + (n + 1)) (hK1 : ∀ (z0 : Int32) (z1 : Int32), 0 ≤ (z0).toInt ∧ (z0).toInt < 16 → 0 ≤ (z1).toInt → (z1).toInt ≤ 4 → 4 < (z1).toInt + n → K1_ok z0 z1 ∧ Q (K1_v z0 z1)) (hQ : ∀ (x : Int32), 0 ≤ (x).toInt ∧ (x).toInt < 256 → Q x) : ok_R_keyBits_j1 x2 K1_ok x6 ∧ Q (f_R_keyBits_j1_v x2 K1_v x6) := by
  unfold ok_R_keyBits_j1 f_R_keyBits_j1_v
  (try dsimp only)
  refine ps_let ?_
  generalize e_x7 : x2 + (1 : Int32) = x7
  have a_x7 : x7.toInt = x2.toInt + 1 := by rw [← e_x7, ti_add (by (try simp only [ti_le, ti_lt, Int32.reduceToInt] at *) <;> omega) (by (try simp only [ti_le, ti_lt, Int32.reduceToInt] at *) <;> omega)]; rfl
  exact hK1 x6 x7 (by first | assumption | decide | (constructor <;> ((try simp only [ti_le, ti_lt, ti_eq, Int32.reduceToInt] at *) <;> omega))) (by first | assumption | decide | ((try simp only [ti_le, ti_lt, ti_eq, Int32.reduceToInt] at *) <;> omega)) (by first | assumption | decide | ((try simp only [ti_le, ti_lt, ti_eq, Int32.reduceToInt] at *) <;> omega)) (by first | assumption | decide | ((try simp only [ti_le, ti_lt, ti_eq, Int32.reduceToInt] at *) <;> omega))
set_option maxRecDepth 100000 in
set_option maxHeartbeats 4000000 in
theorem so_R_keyBits_j2 {d : Int32} {ρ : Nat → Int32} {Q : Int32 → Prop} (x1 : Int32) (x2 : Int32) (n : Nat) (K1_v : Int32 → Int32 → Int32) (K1_ok : Int32 → Int32 → Prop) (hp0 : 0 ≤ (x1).toInt ∧ (x1).toInt < 16) (hp1 : 0 ≤ (x2).toInt) (hp2 : (x2).toInt < 4) (hp3 : 4 < (x2).toInt + (n + 1)) (hK1 : ∀ (z0 : Int32) (z1 : Int32), 0 ≤ (z0).toInt ∧ (z0).toInt < 16 → 0 ≤ (z1).toInt → (z1).toInt ≤ 4 → 4 < (z1).toInt + n → K1_ok z0 z1 ∧ Q (K1_v z0 z1)) (hQ : ∀ (x : Int32), 0 ≤ (x).toInt ∧ (x).toInt < 256 → Q x) : ok_R_keyBits_j2 x1 x2 K1_ok ∧ Q (f_R_keyBits_j2_v x1 x2 K1_v) := by
  unfold ok_R_keyBits_j2 f_R_keyBits_j2_v
  (try dsimp only)
  refine ps_let ?_
  generalize e_x8 : (x1 &&& (((1 : Int32) <<< (x2 &&& (31 : Int32))) ^^^ (-1 : Int32))) = x8
  have q0_x8 : 0 ≤ (x8).toInt ∧ (x8).toInt < 16 := by rw [← e_x8]; exact andl_rng hp0
  exact so_R_keyBits_j1 (d := d) (ρ := ρ) x2 n _ _ x8 (by first | assumption | decide | (constructor <;> ((try simp only [ti_le, ti_lt, ti_eq, Int32.reduceToInt] at *) <;> omega))) (by first | assumption | decide | ((try simp only [ti_le, ti_lt, ti_eq, Int32.reduceToInt] at *) <;> omega)) (by first | assumption | decide | ((try simp only [ti_le, ti_lt, ti_eq, Int32.reduceToInt] at *) <;> omega)) (by first | assumption | decide | ((try simp only [ti_le, ti_lt, ti_eq, Int32.reduceToInt] at *) <;> omega)) hK1 hQ
set_option maxRecDepth 100000 in
set_option maxHeartbeats 4000000 in
theorem so_R_keyBits_j3 {d : Int32} {ρ : Nat → Int32} {Q : Int32 → Prop} (M0 : Mem) (x1 : Int32) (x2 : Int32) (n : Nat) (K1_v : Int32 → Int32 → Int32) (K1_ok : Int32 → Int32 → Prop) (s_M0 : SR d ρ M0) (hp0 : 0 ≤ (x1).toInt ∧ (x1).toInt < 16) (hp1 : 0 ≤ (x2).toInt) (hp2 : (x2).toInt < 4) (hp3 : 4 < (x2).toInt + (n + 1)) (hK1 : ∀ (z0 : Int32) (z1 : Int32), 0 ≤ (z0).toInt ∧ (z0).toInt < 16 → 0 ≤ (z1).toInt → (z1).toInt ≤ 4 → 4 < (z1).toInt + n → K1_ok z0 z1 ∧ Q (K1_v z0 z1)) (hQ : ∀ (x : Int32), 0 ≤ (x).toInt ∧ (x).toInt < 256 → Q x) : ok_R_keyBits_j3 M0 x1 x2 K1_ok ∧ Q (f_R_keyBits_j3_v M0 x1 x2 K1_v) := by
  unfold ok_R_keyBits_j3 f_R_keyBits_j3_v
  (try dsimp only)
  by_cases hc1 : ((M0 0 26) &&& (32 : Int32)) = 0
  · skip
    refine ps_nrp hc1 ?_
    (try simp only [if_pos hc1])
    by_cases hc2 : (((M0 0 25) >>> ((x2 + (4 : Int32)) &&& (31 : Int32))) &&& (1 : Int32)) = (1 : Int32)
    · skip
      refine ps_nrp hc2 ?_
      (try simp only [if_pos hc2])
      exact so_R_keyBits_j2 (d := d) (ρ := ρ) x1 x2 n _ _ (by first | assumption | decide | (constructor <;> ((try simp only [ti_le, ti_lt, ti_eq, Int32.reduceToInt] at *) <;> omega))) (by first | assumption | decide | ((try simp only [ti_le, ti_lt, ti_eq, Int32.reduceToInt] at *) <;> omega)) (by first | assumption | decide | ((try simp only [ti_le, ti_lt, ti_eq, Int32.reduceToInt] at *) <;> omega)) (by first | assumption | decide | ((try simp only [ti_le, ti_lt, ti_eq, Int32.reduceToInt] at *) <;> omega)) hK1 hQ
    · skip
      refine ps_nrn hc2 ?_
      (try simp only [if_neg hc2])
      exact so_R_keyBits_j1 (d := d) (ρ := ρ) x2 n _ _ x1 (by first | assumption | decide | (constructor <;> ((try simp only [ti_le, ti_lt, ti_eq, Int32.reduceToInt] at *) <;> omega))) (by first | assumption | decide | ((try simp only [ti_le, ti_lt, ti_eq, Int32.reduceToInt] at *) <;> omega)) (by first | assumption | decide | ((try simp only [ti_le, ti_lt, ti_eq, Int32.reduceToInt] at *) <;> omega)) (by first | assumption | decide | ((try simp only [ti_le, ti_lt, ti_eq, Int32.reduceToInt] at *) <;> omega)) hK1 hQ
  · skip
    refine ps_nrn hc1 ?_
    (try simp only [if_neg hc1])
    exact so_R_keyBits_j1 (d := d) (ρ := ρ) x2 n _ _ x1 (by first | assumption | decide | (constructor <;> ((try simp only [ti_le, ti_lt, ti_eq, Int32.reduceToInt] at *) <;> omega))) (by first | assumption | decide | ((try simp only [ti_le, ti_lt, ti_eq, Int32.reduceToInt] at *) <;> omega)) (by first | assumption | decide | ((try simp only [ti_le, ti_lt, ti_eq, Int32.reduceToInt] at *) <;> omega)) (by first | assumption | decide | ((try simp only [ti_le, ti_lt, ti_eq, Int32.reduceToInt] at *) <;> omega)) hK1 hQ
set_option maxRecDepth 100000 in
set_option maxHeartbeats 4000000 in
theorem so_R_keyBits_l1 {d : Int32} {ρ : Nat → Int32} {Q : Int32 → Prop} (M0 : Mem) (s_M0 : SR d ρ M0) (hQ : ∀ (x : Int32), 0 ≤ (x).toInt ∧ (x).toInt < 256 → Q x) : ∀ (n : Nat) (x1 : Int32) (x2 : Int32), 0 ≤ (x1).toInt ∧ (x1).toInt < 16 → 0 ≤ (x2).toInt → (x2).toInt ≤ 4 → 4 < (x2).toInt + n → ok_R_keyBits_l1 M0 n x1 x2 ∧ Q (f_R_keyBits_l1_v M0 n x1 x2) := by
  intro n
  induction n with
  | zero =>
    intro x1 x2  hL0 hL1 hL2 hL3
    exact False.elim (by (try simp only [ti_le, ti_lt, Int32.reduceToInt] at *) <;> omega)
  | succ n ih =>
    intro x1 x2  hL0 hL1 hL2 hL3
    have hK1 := ih
    show (((((4 : Int32) ≤ x2) → True) ∧ ((¬ (4 : Int32) ≤ x2) → (((¬ ((M0 0 26) &&& (16 : Int32)) = 0) → ok_R_keyBits_j3 M0 x1 x2 (ok_R_keyBits_l1 M0 n)) ∧ ((((M0 0 26) &&& (16 : Int32)) = 0) → ((((((M0 0 25) >>> (x2 &&& (31 : Int32))) &&& (1 : Int32)) = (1 : Int32)) → ok_R_keyBits_j2 x1 x2 (ok_R_keyBits_l1 M0 n)) ∧ ((¬ (((M0 0 25) >>> (x2 &&& (31 : Int32))) &&& (1 : Int32)) = (1 : Int32)) → ok_R_keyBits_j3 M0 x1 x2 (ok_R_keyBits_l1 M0 n)))))))) ∧ Q ((if (4 : Int32) ≤ x2 then (((192 : Int32) ||| (M0 0 26)) ||| x1) else (if ((M0 0 26) &&& (16 : Int32)) = 0 then (if (((M0 0 25) >>> (x2 &&& (31 : Int32))) &&& (1 : Int32)) = (1 : Int32) then (f_R_keyBits_j2_v x1 x2 (f_R_keyBits_l1_v M0 n)) else (f_R_keyBits_j3_v M0 x1 x2 (f_R_keyBits_l1_v M0 n))) else (f_R_keyBits_j3_v M0 x1 x2 (f_R_keyBits_l1_v M0 n)))))
    (try dsimp only)
    by_cases hc2 : (4 : Int32) ≤ x2
    · skip
      refine ps_brp hc2 ?_
      refine And.intro trivial ?_
      (try simp only [if_pos hc2])
      exact hQ _ (by exact oct_or (oct_or (by decide) (s_M0.f 26)) ((by first | assumption | omega)))
    · skip
      refine ps_brn hc2 ?_
      (try simp only [if_neg hc2])
      by_cases hc3 : ((M0 0 26) &&& (16 : Int32)) = 0
      · skip
        refine ps_nrp hc3 ?_
        (try simp only [if_pos hc3])
        by_cases hc4 : (((M0 0 25) >>> (x2 &&& (31 : Int32))) &&& (1 : Int32)) = (1 : Int32)
        · skip
          refine ps_brp hc4 ?_
          (try simp only [if_pos hc4])
          exact so_R_keyBits_j2 (d := d) (ρ := ρ) x1 x2 n _ _ (by first | assumption | decide | (constructor <;> ((try simp only [ti_le, ti_lt, ti_eq, Int32.reduceToInt] at *) <;> omega))) (by first | assumption | decide | ((try simp only [ti_le, ti_lt, ti_eq, Int32.reduceToInt] at *) <;> omega)) (by first | assumption | decide | ((try simp only [ti_le, ti_lt, ti_eq, Int32.reduceToInt] at *) <;> omega)) (by first | assumption | decide | ((try simp only [ti_le, ti_lt, ti_eq, Int32.reduceToInt] at *) <;> omega)) hK1 hQ
        · skip
          refine ps_brn hc4 ?_
          (try simp only [if_neg hc4])
          exact so_R_keyBits_j3 (d := d) (ρ := ρ) M0 x1 x2 n _ _ s_M0 (by first | assumption | decide | (constructor <;> ((try simp only [ti_le, ti_lt, ti_eq, Int32.reduceToInt] at *) <;> omega))) (by first | assumption | decide | ((try simp only [ti_le, ti_lt, ti_eq, Int32.reduceToInt] at *) <;> omega)) (by first | assumption | decide | ((try simp only [ti_le, ti_lt, ti_eq, Int32.reduceToInt] at *) <;> omega)) (by first | assumption | decide | ((try simp only [ti_le, ti_lt, ti_eq, Int32.reduceToInt] at *) <;> omega)) hK1 hQ
      · skip
        refine ps_nrn hc3 ?_
        (try simp only [if_neg hc3])
        exact so_R_keyBits_j3 (d := d) (ρ := ρ) M0 x1 x2 n _ _ s_M0 (by first | assumption | decide | (constructor <;> ((try simp only [ti_le, ti_lt, ti_eq, Int32.reduceToInt] at *) <;> omega))) (by first | assumption | decide | ((try simp only [ti_le, ti_lt, ti_eq, Int32.reduceToInt] at *) <;> omega)) (by first | assumption | decide | ((try simp only [ti_le, ti_lt, ti_eq, Int32.reduceToInt] at *) <;> omega)) (by first | assumption | decide | ((try simp only [ti_le, ti_lt, ti_eq, Int32.reduceToInt] at *) <;> omega)) hK1 hQ
set_option maxRecDepth 100000 in
set_option maxHeartbeats 4000000 in
theorem sq_R_keyBits {d : Int32} {ρ : Nat → Int32} {Q : Int32 → Prop} (M0 : Mem) (s_M0 : SR d ρ M0) (hQ : ∀ (x : Int32), 0 ≤ (x).toInt ∧ (x).toInt < 256 → Q x) : ok_R_keyBits M0 ∧ Q (f_R_keyBits_v M0) := by
  unfold ok_R_keyBits f_R_keyBits_v
  (try dsimp only)
  exact so_R_keyBits_l1 (d := d) (ρ := ρ) M0 s_M0 hQ 5 (15 : Int32) (0 : Int32) (by first | assumption | exact by decide) (by first | assumption | decide | ((try simp only [ti_le, ti_lt, ti_eq, Int32.reduceToInt] at *) <;> omega)) (by first | assumption | decide | ((try simp only [ti_le, ti_lt, ti_eq, Int32.reduceToInt] at *) <;> omega)) (by first | assumption | decide | ((try simp only [ti_le, ti_lt, ti_eq, Int32.reduceToInt] at *) <;> omega))
theorem so_R_keyBits {d : Int32} {ρ : Nat → Int32} (M0 : Mem) (s_M0 : SR d ρ M0) : ok_R_keyBits M0 ∧ 0 ≤ ((f_R_keyBits_v M0)).toInt ∧ ((f_R_keyBits_v M0)).toInt < 256 := sq_R_keyBits (d := d) (ρ := ρ) (Q := fun x => 0 ≤ (x).toInt ∧ (x).toInt < 256) M0 s_M0  (fun _ h1 => h1)
set_option maxRecDepth 100000 in
set_option maxHeartbeats 4000000 in
theorem so_R_port_j1 {d : Int32} {ρ : Nat → Int32} {Q : Int32 → Prop} (M0 : Mem) (x4 : Int32) (s_M0 : SR d ρ M0) (hp0 : 0 ≤ (x4).toInt ∧ (x4).toInt < 256) (hQ : ∀ (x : Int32), 0 ≤ (x).toInt ∧ (x).toInt < 256 → Q x) : Q (f_R_port_j1_v M0 x4) := by
  unfold f_R_port_j1_v
  (try dsimp only)
  have t_ := so_R_state (d := d) (ρ := ρ) M0 s_M0 
  generalize e_x5 : f_R_state_v M0 = x5 at t_ ⊢
  have q0_x5 := t_
  exact hQ _ (by exact oct_or (oct_or (oct_or (by decide) (s_M0.f 34)) ((by first | assumption | omega))) ((by first | assumption | omega)))
set_option maxRecDepth 100000 in
set_option maxHeartbeats 4000000 in
theorem sq_R_port {d : Int32} {ρ : Nat → Int32} {Q : Int32 → Prop} (M0 : Mem) (a1 : Int32) (s_M0 : SR d ρ M0) (hQ : ∀ (x : Int32), 0 ≤ (x).toInt ∧ (x).toInt < 256 → Q x) : ok_R_port M0 a1 ∧ Q (f_R_port_v M0 a1) := by
  unfold ok_R_port f_R_port_v
  (try dsimp only)
  by_cases hc1 : (a1 = (65280 : Int32))
  · skip
    refine ps_brp hc1 ?_
    (try simp only [if_pos hc1])
    have t_ := so_R_keyBits (d := d) (ρ := ρ) M0 s_M0 
    refine And.intro t_.1 ?_
    replace t_ := t_.2
    generalize e_x1 : f_R_keyBits_v M0 = x1 at t_ ⊢
    have q0_x1 := t_
    exact hQ _ (by first | assumption | decide | (constructor <;> ((try simp only [ti_le, ti_lt, ti_eq, Int32.reduceToInt] at *) <;> omega)))
  · skip
    refine ps_brn hc1 ?_
    refine And.intro trivial ?_
    (try simp only [if_neg hc1])
    by_cases hc2 : (a1 = (65284 : Int32))
    · skip
      (try simp only [if_pos hc2])
      exact hQ _ (by first | assumption | exact and_lt (by decide))
    · skip
      (try simp only [if_neg hc2])
      by_cases hc3 : (a1 = (65285 : Int32))
      · skip
        (try simp only [if_pos hc3])
        exact hQ _ (by first | assumption | exact s_M0.f 28)
      · skip
        (try simp only [if_neg hc3])
        by_cases hc4 : (a1 = (65286 : Int32))
        · skip
          (try simp only [if_pos hc4])
          exact hQ _ (by first | assumption | exact s_M0.f 29)
        · skip
          (try simp only [if_neg hc4])
          by_cases hc5 : (a1 = (65287 : Int32))
          · skip
            (try simp only [if_pos hc5])
            exact hQ _ (by exact oct_or (⟨(s_M0.f 30).1, Int.lt_of_lt_of_le (s_M0.f 30).2 (by decide)⟩) (by decide))
          · skip
            (try simp only [if_neg hc5])
            by_cases hc6 : (a1 = (65295 : Int32))
            · skip
              (try simp only [if_pos hc6])
              exact hQ _ (by exact oct_or (⟨(s_M0.f 31).1, Int.lt_of_lt_of_le (s_M0.f 31).2 (by decide)⟩) (by decide))
            · skip
              (try simp only [if_neg hc6])
              by_cases hc7 : (a1 = (65344 : Int32))
              · skip
                (try simp only [if_pos hc7])
                exact hQ _ (by first | assumption | exact s_M0.f 33)
              · skip
                (try simp only [if_neg hc7])
                by_cases hc8 : (a1 = (65345 : Int32))
                · skip
                  (try simp only [if_pos hc8])
                  by_cases hc9 : (M0 0 37) = (M0 0 38)
                  · skip
                    (try simp only [if_pos hc9])
                    exact so_R_port_j1 (d := d) (ρ := ρ) M0 (4 : Int32) s_M0 (by first | assumption | exact by decide) hQ
                  · skip
                    (try simp only [if_neg hc9])
                    exact so_R_port_j1 (d := d) (ρ := ρ) M0 (0 : Int32) s_M0 (by first | assumption | exact by decide) hQ
                · skip
                  (try simp only [if_neg hc8])
                  by_cases hc9 : (a1 = (65346 : Int32))
                  · skip
                    (try simp only [if_pos hc9])
                    exact hQ _ (by first | assumption | exact s_M0.f 35)
                  · skip
                    (try simp only [if_neg hc9])
                    by_cases hc10 : (a1 = (65347 : Int32))
                    · skip
                      (try simp only [if_pos hc10])
                      exact hQ _ (by first | assumption | exact s_M0.f 36)
                    · skip
                      (try simp only [if_neg hc10])
                      by_cases hc11 : (a1 = (65348 : Int32))
                      · skip
                        (try simp only [if_pos hc11])
                        exact hQ _ (by first | assumption | exact ⟨(s_M0.f 37).1, Int.lt_of_lt_of_le (s_M0.f 37).2 (by decide)⟩)
                      · skip
                        (try simp only [if_neg hc11])
                        by_cases hc12 : (a1 = (65349 : Int32))
                        · skip
                          (try simp only [if_pos hc12])
                          exact hQ _ (by first | assumption | exact s_M0.f 38)
                        · skip
                          (try simp only [if_neg hc12])
                          by_cases hc13 : (a1 = (65350 : Int32))
                          · skip
                            (try simp only [if_pos hc13])
                            exact hQ _ (by first | assumption | exact s_M0.f 39)
                          · skip
                            (try simp only [if_neg hc13])
                            by_cases hc14 : (a1 = (65351 : Int32))
                            · skip
                              (try simp only [if_pos hc14])
                              exact hQ _ (by first | assumption | exact s_M0.f 40)
                            · skip
                              (try simp only [if_neg hc14])
                              by_cases hc15 : (a1 = (65352 : Int32))
                              · skip
                                (try simp only [if_pos hc15])
                                exact hQ _ (by first | assumption | exact s_M0.f 41)
                              · skip
                                (try simp only [if_neg hc15])
                                by_cases hc16 : (a1 = (65353 : Int32))
                                · skip
                                  (try simp only [if_pos hc16])
                                  exact hQ _ (by first | assumption | exact s_M0.f 42)
                                · skip
                                  (try simp only [if_neg hc16])
                                  by_cases hc17 : (a1 = (65354 : Int32))
                                  · skip
                                    (try simp only [if_pos hc17])
                                    exact hQ _ (by first | assumption | exact s_M0.f 43)
                                  · skip
                                    (try simp only [if_neg hc17])
                                    by_cases hc18 : (a1 = (65355 : Int32))
                                    · skip
                                      (try simp only [if_pos hc18])
                                      exact hQ _ (by first | assumption | exact s_M0.f 44)
                                    · skip
                                      (try simp only [if_neg hc18])
                                      by_cases hc19 : (a1 = (65535 : Int32))
                                      · skip
                                        (try simp only [if_pos hc19])
                                        exact hQ _ (by first | assumption | exact s_M0.f 32)
                                      · skip
                                        (try simp only [if_neg hc19])
                                        exact hQ _ (by first | assumption | exact by decide)
theorem so_R_port {d : Int32} {ρ : Nat → Int32} (M0 : Mem) (a1 : Int32) (s_M0 : SR d ρ M0) : ok_R_port M0 a1 ∧ 0 ≤ ((f_R_port_v M0 a1)).toInt ∧ ((f_R_port_v M0 a1)).toInt < 256 := sq_R_port (d := d) (ρ := ρ) (Q := fun x => 0 ≤ (x).toInt ∧ (x).toInt < 256) M0 a1 s_M0  (fun _ h1 => h1)
set_option maxRecDepth 100000 in
set_option maxHeartbeats 4000000 in
theorem so_R_get_j1 {d : Int32} {ρ : Nat → Int32} {Q : Int32 → Prop} (x3 : Int32) (hp0 : 0 ≤ (x3).toInt ∧ (x3).toInt < 256) (hQ : ∀ (x : Int32), 0 ≤ (x).toInt ∧ (x).toInt < 256 → Q x) : Q (f_R_get_j1_v x3) := by
  unfold f_R_get_j1_v
  (try dsimp only)
  exact hQ _ (by first | assumption | decide | (constructor <;> ((try simp only [ti_le, ti_lt, ti_eq, Int32.reduceToInt] at *) <;> omega)))
set_option maxRecDepth 100000 in
set_option maxHeartbeats 4000000 in
theorem so_R_get_j2 {d : Int32} {ρ : Nat → Int32} {Q : Int32 → Prop} (M0 : Mem) (a1 : Int32) (s_M0 : SR d ρ M0) (hQ : ∀ (x : Int32), 0 ≤ (x).toInt ∧ (x).toInt < 256 → Q x) : ok_R_get_j2 M0 a1 ∧ Q (f_R_get_j2_v M0 a1) := by
  unfold ok_R_get_j2 f_R_get_j2_v
  (try dsimp only)
  have t_ := so_R_port (d := d) (ρ := ρ) M0 a1 s_M0 
  refine And.intro t_.1 ?_
  replace t_ := t_.2
  generalize e_x4 : f_R_port_v M0 a1 = x4 at t_ ⊢
  have q0_x4 := t_
  exact so_R_get_j1 (d := d) (ρ := ρ) x4 (by first | assumption | decide | (constructor <;> ((try simp only [ti_le, ti_lt, ti_eq, Int32.reduceToInt] at *) <;> omega))) hQ
set_option maxRecDepth 100000 in
set_option maxHeartbeats 4000000 in
theorem so_R_get_j3 {d : Int32} {ρ : Nat → Int32} {Q : Int32 → Prop} (x10 : Int32) (hp0 : 0 ≤ (x10).toInt ∧ (x10).toInt < 256) (hQ : ∀ (x : Int32), 0 ≤ (x).toInt ∧ (x).toInt < 256 → Q x) : Q (f_R_get_j3_v x10) := by
  unfold f_R_get_j3_v
  (try dsimp only)
  exact hQ _ (by first | assumption | decide | (constructor <;> ((try simp only [ti_le, ti_lt, ti_eq, Int32.reduceToInt] at *) <;> omega)))
set_option maxRecDepth 100000 in
set_option maxHeartbeats 4000000 in
theorem so_R_get_j4 {d : Int32} {ρ : Nat → Int32} {Q : Int32 → Prop} (M0 : Mem) (a1 : Int32) (x11 : Int32) (x13 : Int32) (s_M0 : SR d ρ M0) (hp0 : 0 ≤ (x11).toInt ∧ (x11).toInt < 4) (hp1 : 0 ≤ (x13).toInt ∧ (x13).toInt < 256) (hQ : ∀ (x : Int32), 0 ≤ (x).toInt ∧ (x).toInt < 256 → Q x) : Q (f_R_get_j4_v M0 a1 x11 x13) := by
  unfold f_R_get_j4_v
  (try dsimp only)
  exact so_R_get_j3 (d := d) (ρ := ρ) ((M0 2 ((((256 : Int32) * x11) + (a1 &&& (255 : Int32)))).toNatClampNeg) ||| x13) (by exact oct_or (s_M0.a (by decide)) ((by first | assumption | omega))) hQ
set_option maxRecDepth 100000 in
set_option maxHeartbeats 4000000 in
theorem sq_R_get {d : Int32} {ρ : Nat → Int32} {Q : Int32 → Prop} (M0 : Mem) (a1 : Int32) (s_M0 : SR d ρ M0) (hp0 : 0 ≤ (a1).toInt ∧ (a1).toInt < 65536) (hQ : ∀ (x : Int32), 0 ≤ (x).toInt ∧ (x).toInt < 256 → Q x) : ok_R_get M0 a1 ∧ Q (f_R_get_v M0 a1) := by
  unfold ok_R_get f_R_get_v
  (try dsimp only)
  by_cases hc1 : (16384 : Int32) ≤ a1
  · skip
    refine ps_brp hc1 ?_
    (try simp only [if_pos hc1])
    by_cases hc2 : (32768 : Int32) ≤ a1
    · skip
      refine ps_brp hc2 ?_
      (try simp only [if_pos hc2])
      by_cases hc3 : (40960 : Int32) ≤ a1
      · skip
        refine ps_brp hc3 ?_
        (try simp only [if_pos hc3])
        by_cases hc4 : (49152 : Int32) ≤ a1
        · skip
          refine ps_brp hc4 ?_
          (try simp only [if_pos hc4])
          by_cases hc5 : (65024 : Int32) ≤ a1
          · skip
            refine ps_brp hc5 ?_
            (try simp only [if_pos hc5])
            by_cases hc6 : (65184 : Int32) ≤ a1
            · skip
              refine ps_brp hc6 ?_
              (try simp only [if_pos hc6])
              by_cases hc7 : (65280 : Int32) ≤ a1
              · skip
                refine ps_brp hc7 ?_
                (try simp only [if_pos hc7])
                by_cases hc8 : a1 < (65408 : Int32)
                · skip
                  refine ps_brp hc8 ?_
                  (try simp only [if_pos hc8])
                  exact so_R_get_j2 (d := d) (ρ := ρ) M0 a1 s_M0 hQ
                · skip
                  refine ps_brn hc8 ?_
                  (try simp only [if_neg hc8])
                  by_cases hc9 : a1 = (65535 : Int32)
                  · skip
                    refine ps_nrp hc9 ?_
                    (try simp only [if_pos hc9])
                    exact so_R_get_j2 (d := d) (ρ := ρ) M0 a1 s_M0 hQ
                  · skip
                    refine ps_nrn hc9 ?_
                    (try simp only [if_neg hc9])
                    refine And.intro (by rw [vp_iff, ti_sub (by (try simp only [ti_le, ti_lt, ti_eq, Int32.reduceToInt] at *) <;> omega) (by (try simp only [ti_le, ti_lt, ti_eq, Int32.reduceToInt] at *) <;> omega)]; constructor <;> ((try simp only [ti_le, ti_lt, ti_eq, Int32.reduceToInt] at *) <;> omega)) ?_
                    exact so_R_get_j1 (d := d) (ρ := ρ) (M0 6 ((a1 - (65408 : Int32))).toNatClampNeg) (by first | assumption | exact s_M0.a (by decide)) hQ
              · skip
                refine ps_brn hc7 ?_
                refine And.intro trivial ?_
                (try simp only [if_neg hc7])
                exact hQ _ (by first | assumption | exact by decide)
            · skip
              refine ps_brn hc6 ?_
              (try simp only [if_neg hc6])
              refine And.intro (by rw [vp_iff, ti_sub (by (try simp only [ti_le, ti_lt, ti_eq, Int32.reduceToInt] at *) <;> omega) (by (try simp only [ti_le, ti_lt, ti_eq, Int32.reduceToInt] at *) <;> omega)]; constructor <;> ((try simp only [ti_le, ti_lt, ti_eq, Int32.reduceToInt] at *) <;> omega)) ?_
              exact hQ _ (by first | assumption | exact s_M0.a (by decide))
          · skip
            refine ps_brn hc5 ?_
            (try simp only [if_neg hc5])
            refine And.intro (by exact vp_and (by decide)) ?_
            exact hQ _ (by first | assumption | exact s_M0.a (by decide))
        · skip
          refine ps_brn hc4 ?_
          (try simp only [if_neg hc4])
          have t_ := so_R_hasRam (d := d) (ρ := ρ) M0 s_M0 
          refine ps_and t_.1 ?_
          replace t_ := t_.2
          refine ps_let ?_
          generalize e_x5 : f_R_hasRam_v M0 = x5 at t_ ⊢
          by_cases hc5 : x5 = 0
          · skip
            refine ps_nrp hc5 ?_
            refine And.intro trivial ?_
            (try simp only [if_pos hc5])
            exact so_R_get_j3 (d := d) (ρ := ρ) (255 : Int32) (by first | assumption | exact by decide) hQ
          · skip
            refine ps_nrn hc5 ?_
            (try simp only [if_neg hc5])
            have t_ := so_R_bankRam (d := d) (ρ := ρ) M0 s_M0 
            refine ps_let ?_
            generalize e_x11 : f_R_bankRam_v M0 = x11 at t_ ⊢
            have q0_x11 := t_
            refine And.intro (by exact ram_in2 (by assumption)) ?_
            by_cases hc6 : (M0 0 10) = (2 : Int32)
            · skip
              (try simp only [if_pos hc6])
              exact so_R_get_j4 (d := d) (ρ := ρ) M0 a1 x11 (240 : Int32) s_M0 (by first | assumption | decide | (constructor <;> ((try simp only [ti_le, ti_lt, ti_eq, Int32.reduceToInt] at *) <;> omega))) (by first | assumption | exact by decide) hQ
            · skip
              (try simp only [if_neg hc6])
              exact so_R_get_j4 (d := d) (ρ := ρ) M0 a1 x11 (0 : Int32) s_M0 (by first | assumption | decide | (constructor <;> ((try simp only [ti_le, ti_lt, ti_eq, Int32.reduceToInt] at *) <;> omega))) (by first | assumption | exact by decide) hQ
      · skip
        refine ps_brn hc3 ?_
        (try simp only [if_neg hc3])
        refine And.intro (by rw [vp_iff, ti_sub (by (try simp only [ti_le, ti_lt, ti_eq, Int32.reduceToInt] at *) <;> omega) (by (try simp only [ti_le, ti_lt, ti_eq, Int32.reduceToInt] at *) <;> omega)]; constructor <;> ((try simp only [ti_le, ti_lt, ti_eq, Int32.reduceToInt] at *) <;> omega)) ?_
        exact hQ _ (by first | assumption | exact s_M0.a (by decide))
    · skip
      refine ps_brn hc2 ?_
      (try simp only [if_neg hc2])
      have t_ := so_R_bankHigh (d := d) (ρ := ρ) M0 s_M0 
      refine ps_let ?_
      generalize e_x14 : f_R_bankHigh_v M0 = x14 at t_ ⊢
      have q0_x14 := t_
      refine And.intro (by exact bank_in2 (by assumption)) ?_
      exact hQ _ (by first | assumption | exact s_M0.a (by decide))
  · skip
    refine ps_brn hc1 ?_
    (try simp only [if_neg hc1])
    refine And.intro (by exact vp_and (by decide)) ?_
    exact hQ _ (by first | assumption | exact s_M0.a (by decide))
theorem so_R_get {d : Int32} {ρ : Nat → Int32} (M0 : Mem) (a1 : Int32) (s_M0 : SR d ρ M0) (hp0 : 0 ≤ (a1).toInt ∧ (a1).toInt < 65536) : ok_R_get M0 a1 ∧ 0 ≤ ((f_R_get_v M0 a1)).toInt ∧ ((f_R_get_v M0 a1)).toInt < 256 := sq_R_get (d := d) (ρ := ρ) (Q := fun x => 0 ≤ (x).toInt ∧ (x).toInt < 256) M0 a1 s_M0 hp0 (fun _ h1 => h1)
set_option maxRecDepth 100000 in
set_option maxHeartbeats 4000000 in
theorem so_R_setPort_j1 {d : Int32} {ρ : Nat → Int32} {Q : Mem → Prop} (M27 : Mem) (s_M27 : SR d ρ M27) (hQ : ∀ (M' : Mem), SR d ρ M' → Q M') : Q (f_R_setPort_j1_m M27) := by
  unfold f_R_setPort_j1_m
  (try dsimp only)
  exact hQ _ s_M27
set_option maxRecDepth 100000 in
set_option maxHeartbeats 4000000 in
theorem so_R_setPort_l1 {d : Int32} {ρ : Nat → Int32} {Q : Mem → Prop} (a2 : Int32) (hQ : ∀ (M' : Mem), SR d ρ M' → Q M') : ∀ (n : Nat) (x42 : Int32) (M43 : Mem), SR d ρ M43 → 0 ≤ (x42).toInt → (x42).toInt ≤ 160 → 160 < (x42).toInt + n → ok_R_setPort_l1 a2 n x42 M43 ∧ Q (f_R_setPort_l1_m a2 n x42 M43) := by
  intro n
  induction n with
  | zero =>
    intro x42 M43 s_M43 hL0 hL1 hL2
    exact False.elim (by (try simp only [ti_le, ti_lt, Int32.reduceToInt] at *) <;> omega)
  | succ n ih =>
    intro x42 M43 s_M43 hL0 hL1 hL2
    have hK1 := ih
    show (((((160 : Int32) ≤ x42) → True) ∧ ((¬ (160 : Int32) ≤ x42) → ok_R_get M43 ((((256 : Int32) * a2) + x42) &&& (65535 : Int32)) ∧ (∀ x44 : Int32, x44 = f_R_get_v M43 ((((256 : Int32) * a2) + x42) &&& (65535 : Int32)) → vp_in x42 160 ∧ (∀ M45 : Mem, M45 = mst M43 5 x42.toNatClampNeg x44 → ∀ x46 : Int32, x46 = x42 + (1 : Int32) → (ok_R_setPort_l1 a2 n) x46 M45))))) ∧ Q ((if (160 : Int32) ≤ x42 then (f_R_setPort_j1_m M43) else let x44 : Int32 := f_R_get_v M43 ((((256 : Int32) * a2) + x42) &&& (65535 : Int32)); let M45 : Mem := mst M43 5 x42.toNatClampNeg x44; let x46 : Int32 := x42 + (1 : Int32); ((f_R_setPort_l1_m a2 n) x46 M45)))
    (try dsimp only)
    by_cases hc2 : (160 : Int32) ≤ x42
    · skip
      refine ps_brp hc2 ?_
      refine And.intro trivial ?_
      (try simp only [if_pos hc2])
      exact so_R_setPort_j1 (d := d) (ρ := ρ) M43 s_M43 hQ
    · skip
      refine ps_brn hc2 ?_
      (try simp only [if_neg hc2])
      have t_ := so_R_get (d := d) (ρ := ρ) M43 ((((256 : Int32) * a2) + x42) &&& (65535 : Int32)) s_M43 (by first | assumption | exact and_lt (by decide))
      refine ps_and t_.1 ?_
      replace t_ := t_.2
      refine ps_let ?_
      generalize e_x44 : f_R_get_v M43 ((((256 : Int32) * a2) + x42) &&& (65535 : Int32)) = x44 at t_ ⊢
      have q0_x44 := t_
      refine ps_and (by first | assumption | (rw [vp_iff]; constructor <;> ((try simp only [ti_le, ti_lt, ti_eq, Int32.reduceToInt] at *) <;> omega))) ?_
      refine ps_let ?_
      have s_M45 : SR d ρ (mst M43 5 x42.toNatClampNeg x44) := SR.sa s_M43 (by decide) (by assumption)
      generalize e_M45 : mst M43 5 x42.toNatClampNeg x44 = M45 at s_M45 ⊢
      refine ps_let ?_
      generalize e_x46 : x42 + (1 : Int32) = x46
      have a_x46 : x46.toInt = x42.toInt + 1 := by rw [← e_x46, ti_add (by (try simp only [ti_le, ti_lt, Int32.reduceToInt] at *) <;> omega) (by (try simp only [ti_le, ti_lt, Int32.reduceToInt] at *) <;> omega)]; rfl
      exact hK1 x46 M45 s_M45 (by first | assumption | decide | ((try simp only [ti_le, ti_lt, ti_eq, Int32.reduceToInt] at *) <;> omega)) (by first | assumption | decide | ((try simp only [ti_le, ti_lt, ti_eq, Int32.reduceToInt] at *) <;> omega)) (by first | assumption | decide | ((try simp only [ti_le, ti_lt, ti_eq, Int32.reduceToInt] at *) <;> omega))
set_option maxRecDepth 100000 in
set_option maxHeartbeats 4000000 in
theorem sq_R_setPort {d : Int32} {ρ : Nat → Int32} {Q : Mem → Prop} (M0 : Mem) (a1 : Int32) (a2 : Int32) (s_M0 : SR d ρ M0) (hp0 : 0 ≤ (a2).toInt ∧ (a2).toInt < 256) (hQ : ∀ (M' : Mem), SR d ρ M' → Q M') : ok_R_setPort M0 a1 a2 ∧ Q (f_R_setPort_m M0 a1 a2) := by
  unfold ok_R_setPort f_R_setPort_m
  (try dsimp only)
  by_cases hc1 : (a1 = (65280 : Int32))
  · skip
    refine ps_brp hc1 ?_
    refine And.intro trivial ?_
    (try simp only [if_pos hc1])
    have s_M28 : SR d ρ (mst M0 0 26 (a2 &&& (48 : Int32))) := SR.sf s_M0 (by decide) (and_lt (by decide))
    generalize e_M28 : mst M0 0 26 (a2 &&& (48 : Int32)) = M28 at s_M28 ⊢
    exact so_R_setPort_j1 (d := d) (ρ := ρ) M28 s_M28 hQ
  · skip
    refine ps_brn hc1 ?_
    (try simp only [if_neg hc1])
    by_cases hc2 : (a1 = (65284 : Int32))
    · skip
      refine ps_brp hc2 ?_
      refine And.intro trivial ?_
      (try simp only [if_pos hc2])
      have s_M29 : SR d ρ (mst M0 0 27 (0 : Int32)) := SR.sf s_M0 (by decide) (by decide)
      generalize e_M29 : mst M0 0 27 (0 : Int32) = M29 at s_M29 ⊢
      exact so_R_setPort_j1 (d := d) (ρ := ρ) M29 s_M29 hQ
    · skip
      refine ps_brn hc2 ?_
      (try simp only [if_neg hc2])
      by_cases hc3 : (a1 = (65285 : Int32))
      · skip
        refine ps_brp hc3 ?_
        refine And.intro trivial ?_
        (try simp only [if_pos hc3])
        have s_M30 : SR d ρ (mst M0 0 28 a2) := SR.sf s_M0 (by decide) (by assumption)
        generalize e_M30 : mst M0 0 28 a2 = M30 at s_M30 ⊢
        exact so_R_setPort_j1 (d := d) (ρ := ρ) M30 s_M30 hQ
      · skip
        refine ps_brn hc3 ?_
        (try simp only [if_neg hc3])
        by_cases hc4 : (a1 = (65286 : Int32))
        · skip
          refine ps_brp hc4 ?_
          refine And.intro trivial ?_
          (try simp only [if_pos hc4])
          have s_M31 : SR d ρ (mst M0 0 29 a2) := SR.sf s_M0 (by decide) (by assumption)
          generalize e_M31 : mst M0 0 29 a2 = M31 at s_M31 ⊢
          exact so_R_setPort_j1 (d := d) (ρ := ρ) M31 s_M31 hQ
        · skip
          refine ps_brn hc4 ?_
          (try simp only [if_neg hc4])
          by_cases hc5 : (a1 = (65287 : Int32))
          · skip
            refine ps_brp hc5 ?_
            refine And.intro trivial ?_
            (try simp only [if_pos hc5])
            have s_M32 : SR d ρ (mst M0 0 30 (a2 &&& (7 : Int32))) := SR.sf s_M0 (by decide) (and_lt (by decide))
            generalize e_M32 : mst M0 0 30 (a2 &&& (7 : Int32)) = M32 at s_M32 ⊢
            exact so_R_setPort_j1 (d := d) (ρ := ρ) M32 s_M32 hQ
          · skip
            refine ps_brn hc5 ?_
            (try simp only [if_neg hc5])
            by_cases hc6 : (a1 = (65295 : Int32))
            · skip
              refine ps_brp hc6 ?_
              refine And.intro trivial ?_
              (try simp only [if_pos hc6])
              have s_M33 : SR d ρ (mst M0 0 31 (a2 &&& (31 : Int32))) := SR.sf s_M0 (by decide) (and_lt (by decide))
              generalize e_M33 : mst M0 0 31 (a2 &&& (31 : Int32)) = M33 at s_M33 ⊢
              exact so_R_setPort_j1 (d := d) (ρ := ρ) M33 s_M33 hQ
            · skip
              refine ps_brn hc6 ?_
              (try simp only [if_neg hc6])
              by_cases hc7 : (a1 = (65344 : Int32))
              · skip
                refine ps_brp hc7 ?_
                refine And.intro trivial ?_
                (try simp only [if_pos hc7])
                have s_M34 : SR d ρ (mst M0 0 33 a2) := SR.sf s_M0 (by decide) (by assumption)
                generalize e_M34 : mst M0 0 33 a2 = M34 at s_M34 ⊢
                by_cases hc8 : (a2 &&& (128 : Int32)) = 0
                · skip
                  (try simp only [if_pos hc8])
                  have s_M35 : SR d ρ (mst M34 0 45 (0 : Int32)) := SR.sf s_M34 (by decide) (any_rng _)
                  generalize e_M35 : mst M34 0 45 (0 : Int32) = M35 at s_M35 ⊢
                  have s_M36 : SR d ρ (mst M35 0 37 (0 : Int32)) := SR.sf s_M35 (by decide) (by decide)
                  generalize e_M36 : mst M35 0 37 (0 : Int32) = M36 at s_M36 ⊢
                  exact so_R_setPort_j1 (d := d) (ρ := ρ) M36 s_M36 hQ
                · skip
                  (try simp only [if_neg hc8])
                  exact so_R_setPort_j1 (d := d) (ρ := ρ) M34 s_M34 hQ
              · skip
                refine ps_brn hc7 ?_
                (try simp only [if_neg hc7])
                by_cases hc8 : (a1 = (65345 : Int32))
                · skip
                  refine ps_brp hc8 ?_
                  refine And.intro trivial ?_
                  (try simp only [if_pos hc8])
                  have s_M37 : SR d ρ (mst M0 0 34 (a2 &&& (120 : Int32))) := SR.sf s_M0 (by decide) (and_lt (by decide))
                  generalize e_M37 : mst M0 0 34 (a2 &&& (120 : Int32)) = M37 at s_M37 ⊢
                  exact so_R_setPort_j1 (d := d) (ρ := ρ) M37 s_M37 hQ
                · skip
                  refine ps_brn hc8 ?_
                  (try simp only [if_neg hc8])
                  by_cases hc9 : (a1 = (65346 : Int32))
                  · skip
                    refine ps_brp hc9 ?_
                    refine And.intro trivial ?_
                    (try simp only [if_pos hc9])
                    have s_M38 : SR d ρ (mst M0 0 35 a2) := SR.sf s_M0 (by decide) (by assumption)
                    generalize e_M38 : mst M0 0 35 a2 = M38 at s_M38 ⊢
                    exact so_R_setPort_j1 (d := d) (ρ := ρ) M38 s_M38 hQ
                  · skip
                    refine ps_brn hc9 ?_
                    (try simp only [if_neg hc9])
                    by_cases hc10 : (a1 = (65347 : Int32))
                    · skip
                      refine ps_brp hc10 ?_
                      refine And.intro trivial ?_
                      (try simp only [if_pos hc10])
                      have s_M39 : SR d ρ (mst M0 0 36 a2) := SR.sf s_M0 (by decide) (by assumption)
                      generalize e_M39 : mst M0 0 36 a2 = M39 at s_M39 ⊢
                      exact so_R_setPort_j1 (d := d) (ρ := ρ) M39 s_M39 hQ
                    · skip
                      refine ps_brn hc10 ?_
                      (try simp only [if_neg hc10])
                      by_cases hc11 : (a1 = (65349 : Int32))
                      · skip
                        refine ps_brp hc11 ?_
                        refine And.intro trivial ?_
                        (try simp only [if_pos hc11])
                        have s_M40 : SR d ρ (mst M0 0 38 a2) := SR.sf s_M0 (by decide) (by assumption)
                        generalize e_M40 : mst M0 0 38 a2 = M40 at s_M40 ⊢
                        exact so_R_setPort_j1 (d := d) (ρ := ρ) M40 s_M40 hQ
                      · skip
                        refine ps_brn hc11 ?_
                        (try simp only [if_neg hc11])
                        by_cases hc12 : (a1 = (65350 : Int32))
                        · skip
                          refine ps_brp hc12 ?_
                          (try simp only [if_pos hc12])
                          refine ps_let ?_
                          have s_M41 : SR d ρ (mst M0 0 39 a2) := SR.sf s_M0 (by decide) (by assumption)
                          generalize e_M41 : mst M0 0 39 a2 = M41 at s_M41 ⊢
                          exact so_R_setPort_l1 (d := d) (ρ := ρ) a2 hQ 161 (0 : Int32) M41 s_M41 (by first | assumption | decide | ((try simp only [ti_le, ti_lt, ti_eq, Int32.reduceToInt] at *) <;> omega)) (by first | assumption | decide | ((try simp only [ti_le, ti_lt, ti_eq, Int32.reduceToInt] at *) <;> omega)) (by first | assumption | decide | ((try simp only [ti_le, ti_lt, ti_eq, Int32.reduceToInt] at *) <;> omega))
                        · skip
                          refine ps_brn hc12 ?_
                          refine And.intro trivial ?_
                          (try simp only [if_neg hc12])
                          by_cases hc13 : (a1 = (65351 : Int32))
                          · skip
                            (try simp only [if_pos hc13])
                            have s_M47 : SR d ρ (mst M0 0 40 a2) := SR.sf s_M0 (by decide) (by assumption)
                            generalize e_M47 : mst M0 0 40 a2 = M47 at s_M47 ⊢
                            exact so_R_setPort_j1 (d := d) (ρ := ρ) M47 s_M47 hQ
                          · skip
                            (try simp only [if_neg hc13])
                            by_cases hc14 : (a1 = (65352 : Int32))
                            · skip
                              (try simp only [if_pos hc14])
                              have s_M48 : SR d ρ (mst M0 0 41 a2) := SR.sf s_M0 (by decide) (by assumption)
                              generalize e_M48 : mst M0 0 41 a2 = M48 at s_M48 ⊢
                              exact so_R_setPort_j1 (d := d) (ρ := ρ) M48 s_M48 hQ
                            · skip
                              (try simp only [if_neg hc14])
                              by_cases hc15 : (a1 = (65353 : Int32))
                              · skip
                                (try simp only [if_pos hc15])
                                have s_M49 : SR d ρ (mst M0 0 42 a2) := SR.sf s_M0 (by decide) (by assumption)
                                generalize e_M49 : mst M0 0 42 a2 = M49 at s_M49 ⊢
                                exact so_R_setPort_j1 (d := d) (ρ := ρ) M49 s_M49 hQ
                              · skip
                                (try simp only [if_neg hc15])
                                by_cases hc16 : (a1 = (65354 : Int32))
                                · skip
                                  (try simp only [if_pos hc16])
                                  have s_M50 : SR d ρ (mst M0 0 43 a2) := SR.sf s_M0 (by decide) (by assumption)
                                  generalize e_M50 : mst M0 0 43 a2 = M50 at s_M50 ⊢
                                  exact so_R_setPort_j1 (d := d) (ρ := ρ) M50 s_M50 hQ
                                · skip
                                  (try simp only [if_neg hc16])
                                  by_cases hc17 : (a1 = (65355 : Int32))
                                  · skip
                                    (try simp only [if_pos hc17])
                                    have s_M51 : SR d ρ (mst M0 0 44 a2) := SR.sf s_M0 (by decide) (by assumption)
                                    generalize e_M51 : mst M0 0 44 a2 = M51 at s_M51 ⊢
                                    exact so_R_setPort_j1 (d := d) (ρ := ρ) M51 s_M51 hQ
                                  · skip
                                    (try simp only [if_neg hc17])
                                    by_cases hc18 : (a1 = (65535 : Int32))
                                    · skip
                                      (try simp only [if_pos hc18])
                                      have s_M52 : SR d ρ (mst M0 0 32 a2) := SR.sf s_M0 (by decide) (by assumption)
                                      generalize e_M52 : mst M0 0 32 a2 = M52 at s_M52 ⊢
                                      exact so_R_setPort_j1 (d := d) (ρ := ρ) M52 s_M52 hQ
                                    · skip
                                      (try simp only [if_neg hc18])
                                      exact so_R_setPort_j1 (d := d) (ρ := ρ) M0 s_M0 hQ
theorem so_R_setPort {d : Int32} {ρ : Nat → Int32} (M0 : Mem) (a1 : Int32) (a2 : Int32) (s_M0 : SR d ρ M0) (hp0 : 0 ≤ (a2).toInt ∧ (a2).toInt < 256) : ok_R_setPort M0 a1 a2 ∧ SR d ρ (f_R_setPort_m M0 a1 a2) := sq_R_setPort (d := d) (ρ := ρ) (Q := fun M' => SR d ρ M') M0 a1 a2 s_M0 hp0 (fun _ h0 => h0)
