/-! Cycles agree. -/
theorem and_le0 {x k : Int32} (hk : 0 ≤ k.toInt) : (x &&& k) ≤ 0 ↔ (x &&& k) = 0 := by
  have h := and_rng x k hk
  have h0 : (0 : Int32).toInt = 0 := by decide
  rw [ti_le, ti_eq]; omega
theorem and_pow {s : Int32} (hs : w16 s) (k : Nat) (hk : k ≤ 16) : (s &&& nI (2 ^ k - 1)).toInt = s.toInt % (2 ^ k : Nat) := by
  obtain ⟨j, hj, rfl⟩ := of_nI (n := 65536) hs (by decide)
  have hp : 2 ^ k ≤ 2 ^ 16 := Nat.pow_le_pow_right (by decide) hk
  have hp1 : 0 < 2 ^ k := Nat.two_pow_pos k
  have e : nI j &&& nI (2 ^ k - 1) = nI (j % 2 ^ k) := by
    apply Int32.toBitVec_inj.mp
    apply BitVec.eq_of_toNat_eq
    rw [Int32.toBitVec_and, BitVec.toNat_and]
    show (BitVec.ofNat 32 j).toNat &&& (BitVec.ofNat 32 (2 ^ k - 1)).toNat = (BitVec.ofNat 32 (j % 2 ^ k)).toNat
    have h3 : j % 2 ^ k < 2 ^ k := Nat.mod_lt _ hp1
    rw [BitVec.toNat_ofNat, BitVec.toNat_ofNat, BitVec.toNat_ofNat, Nat.mod_eq_of_lt (by omega), Nat.mod_eq_of_lt (by omega), Nat.mod_eq_of_lt (by omega), Nat.and_two_pow_sub_one_eq_mod]
  have h3 : j % 2 ^ k < 2 ^ k := Nat.mod_lt _ hp1
  rw [e, nI_toInt (by omega), nI_toInt (by omega)]; rfl
theorem mod_ti {s : Int32} (hs : w16 s) (m : Nat) (hm : 1 ≤ m ∧ m ≤ 256) : (s - s / nI m * nI m).toInt = s.toInt % m := by
  have hmi : (nI m).toInt = m := nI_toInt (by omega)
  have h0 : (s / nI m).toInt = s.toInt / m := by
    rw [Int32.toInt_div, hmi, Int.tdiv_eq_ediv_of_nonneg hs.1]
    have h1 : 0 ≤ s.toInt / (m : Int) := Int.ediv_nonneg hs.1 (by omega)
    have h2 : s.toInt / (m : Int) ≤ s.toInt := Int.ediv_le_self _ hs.1
    exact Int.bmod_eq_of_le (by omega) (by omega)
  have h1 : 0 ≤ s.toInt / (m : Int) := Int.ediv_nonneg hs.1 (by omega)
  have h2 : s.toInt / (m : Int) * m ≤ s.toInt := Int.ediv_mul_le _ (by omega)
  have h3 : 0 ≤ s.toInt / (m : Int) * m := Int.mul_nonneg h1 (by omega)
  have h4 : (s / nI m * nI m).toInt = s.toInt / m * m := by rw [ti_mul (by rw [h0, hmi]; omega) (by rw [h0, hmi]; omega), h0, hmi]
  rw [ti_sub (by omega) (by omega), h4, Int.emod_def, Int.mul_comm]
theorem tick_eq {s : Int32} (hs : w16 s) (k : Nat) (hk : k ≤ 8) : (s - s / nI (2 ^ k) * nI (2 ^ k)) = 0 ↔ (s &&& nI (2 ^ k - 1)) = 0 := by
  have h0 : (0 : Int32).toInt = 0 := by decide
  have hp : 2 ^ k ≤ 2 ^ 8 := Nat.pow_le_pow_right (by decide) hk
  have hp1 : 0 < 2 ^ k := Nat.two_pow_pos k
  rw [ti_eq, ti_eq, mod_ti hs (2 ^ k) ⟨hp1, hp⟩, and_pow hs k (by omega)]
def tmR (N : Mem) (x : Int32) : Mem := if ((N 0 30) &&& (4 : Int32)) ≤ 0 then N else (if ((N 0 27) - (N 0 27) / x * x) = 0 then (if (N 0 28) = (255 : Int32) then mst (mst N 0 28 (N 0 29)) 0 31 (((mst N 0 28 (N 0 29)) 0 31) ||| (4 : Int32)) else mst N 0 28 ((N 0 28) + (1 : Int32))) else N)
def frR (B : Mem) : Mem := if (B 0 37) = (144 : Int32) then mst (mst B 0 31 ((B 0 31) ||| (1 : Int32))) 0 50 (((mst B 0 31 ((B 0 31) ||| (1 : Int32))) 0 50) + (1 : Int32)) else B
def dotR (N : Mem) : Mem := if ((N 0 33) &&& (128 : Int32)) ≤ 0 then N else (if ((N 0 45) + (1 : Int32)) = (114 : Int32) then frR (mst (mst (mst N 0 45 ((N 0 45) + (1 : Int32))) 0 45 (0 : Int32)) 0 37 (if (N 0 37) = (153 : Int32) then 0 else (N 0 37) + (1 : Int32))) else mst N 0 45 ((N 0 45) + (1 : Int32)))
theorem cy_j1 (N : Mem) (x : Int32) : f_R_cycle_j1_m N x = f_R_cycle_j2_m (tmR N x) := by
  unfold f_R_cycle_j1_m tmR; dsimp only
  repeat' split
  all_goals rfl
theorem cy_j5 (N : Mem) (y : Int32) : f_R_cycle_j5_m N y = f_R_cycle_j3_m (frR (mst N 0 37 y)) := by
  unfold f_R_cycle_j5_m frR; dsimp only; split <;> rfl
theorem frR_33 (B : Mem) : frR B 0 33 = B 0 33 := by
  unfold frR; split
  · rw [mst_ne (by decide), mst_ne (by decide)]
  · rfl
theorem cy_j2 (N : Mem) : f_R_cycle_j2_m N = f_R_cycle_j3_m (stR (dotR N)) := by
  unfold f_R_cycle_j2_m dotR; dsimp only
  by_cases h : ((N 0 33) &&& (128 : Int32)) ≤ 0
  · rw [if_pos h, if_pos h]; unfold stR; rw [if_pos ((and_le0 (by decide)).mp h)]
  · rw [if_neg h, if_neg h]
    have hn : ¬ ((N 0 33) &&& (128 : Int32)) = 0 := fun e => h ((and_le0 (by decide)).mpr e)
    have st : ∀ X : Mem, X 0 33 = N 0 33 → stR X = X := fun X e => by unfold stR; rw [e, if_neg hn]
    have e45 : mst N 0 45 ((N 0 45) + (1 : Int32)) 0 45 = (N 0 45) + (1 : Int32) := mst_eq
    have e37 : mst (mst N 0 45 ((N 0 45) + (1 : Int32))) 0 45 (0 : Int32) 0 37 = N 0 37 := by rw [mst_ne (by decide), mst_ne (by decide)]
    rw [e45, e37]
    by_cases h1 : ((N 0 45) + (1 : Int32)) = (114 : Int32)
    · rw [if_pos h1, if_pos h1]
      by_cases h2 : N 0 37 = (153 : Int32)
      · rw [if_pos h2, if_pos h2, cy_j5, st _ (by rw [frR_33, mst_ne (by decide), mst_ne (by decide), mst_ne (by decide)])]
      · rw [if_neg h2, if_neg h2, cy_j5, st _ (by rw [frR_33, mst_ne (by decide), mst_ne (by decide), mst_ne (by decide)])]
    · rw [if_neg h1, if_neg h1, st _ (mst_ne (by decide))]
theorem timer {M N : Mem} (h : RPb M N) (hs : w16 (N 0 27)) {x : Int32} (hx : (N 0 30 &&& (3 : Int32)) = 0 ∧ x = nI (2 ^ 8) ∨ (N 0 30 &&& (3 : Int32)) = 1 ∧ x = nI (2 ^ 2) ∨ (N 0 30 &&& (3 : Int32)) = 2 ∧ x = nI (2 ^ 4) ∨ (N 0 30 &&& (3 : Int32)) = 3 ∧ x = nI (2 ^ 6)) : RPb (f_P_moveTimer_m M) (tmR N x) := by
  have h7 : M 8 7 = N 0 30 := h (8, 7, 30) (by decide)
  have h3 : M 2 3 = N 0 27 := h (2, 3, 27) (by decide)
  have h5 : M 8 5 = N 0 28 := h (8, 5, 28) (by decide)
  have h6 : M 8 6 = N 0 29 := h (8, 6, 29) (by decide)
  have hc : ((N 0 27) &&& tv_c0 (N 0 30 &&& (3 : Int32)).toNatClampNeg) = 0 ↔ ((N 0 27) - (N 0 27) / x * x) = 0 := by
    rcases hx with ⟨e, rfl⟩ | ⟨e, rfl⟩ | ⟨e, rfl⟩ | ⟨e, rfl⟩
    · rw [e, tick_eq hs 8 (by decide)]; exact Iff.rfl
    · rw [e, tick_eq hs 2 (by decide)]; exact Iff.rfl
    · rw [e, tick_eq hs 4 (by decide)]; exact Iff.rfl
    · rw [e, tick_eq hs 6 (by decide)]; exact Iff.rfl
  unfold f_P_moveTimer_m tmR f_P_moveTimer_j1_m f_P_moveTimer_j2_m; dsimp only
  rw [h7, h3, h5, h6]
  by_cases c1 : ((N 0 30) &&& (4 : Int32)) = 0
  · rw [if_pos c1, if_pos ((and_le0 (by decide)).mpr c1)]; exact h
  · rw [if_neg c1, if_neg (fun e => c1 ((and_le0 (by decide)).mp e))]
    by_cases c2 : ((N 0 27) - (N 0 27) / x * x) = 0
    · rw [if_pos (hc.mpr c2), if_pos c2]
      by_cases c3 : (N 0 28) = (255 : Int32)
      · rw [if_pos c3, if_pos c3]
        have h9 := h.up (c := 8) (k := 5) (j := 28) (by decide) (N 0 29)
        have h8 : mst M 8 5 (N 0 29) 8 15 = mst N 0 28 (N 0 29) 0 31 := h9 (8, 15, 31) (by decide)
        rw [h8]
        exact h9.up (c := 8) (k := 15) (j := 31) (by decide) _
      · rw [if_neg c3, if_neg c3]; exact h.up (c := 8) (k := 5) (j := 28) (by decide) _
    · rw [if_neg (fun e => c2 (hc.mp e)), if_neg c2]; exact h
def DR (N : Mem) : Prop := 0 ≤ (N 0 45).toInt ∧ (N 0 45).toInt < 114
theorem dot_j1 {A B : Mem} (h : RPb A B) (y : Int32) : RPb (f_P_moveDot_j1_m A y) (frR (mst B 0 37 y)) := by
  have h3 := h.up (c := 2) (k := 5) (j := 37) (by decide) y
  unfold f_P_moveDot_j1_m frR f_P_moveDot_j2_m; dsimp only
  generalize mst A 2 5 y = A1 at h3 ⊢
  generalize mst B 0 37 y = B1 at h3 ⊢
  have e1 : A1 2 5 = B1 0 37 := h3 (2, 5, 37) (by decide)
  have e2 : A1 8 15 = B1 0 31 := h3 (8, 15, 31) (by decide)
  rw [e1, e2]
  split
  · have h4 := h3.up (c := 8) (k := 15) (j := 31) (by decide) (B1 0 31 ||| (1 : Int32))
    have e3 : mst A1 8 15 (B1 0 31 ||| (1 : Int32)) 2 1 = mst B1 0 31 (B1 0 31 ||| (1 : Int32)) 0 50 := h4 (2, 1, 50) (by decide)
    rw [e3]
    exact h4.up (c := 2) (k := 1) (j := 50) (by decide) _
  · exact h3
theorem frR_45 (B : Mem) : frR B 0 45 = B 0 45 := by
  unfold frR; split
  · rw [mst_ne (by decide), mst_ne (by decide)]
  · rfl
theorem dots {M N : Mem} (h : RPb M N) (hd : DR N) (hl : 0 ≤ (N 0 37).toInt ∧ (N 0 37).toInt < 154) : RPb (f_P_moveDot_m M) (dotR N) ∧ DR (dotR N) := by
  have h64 : M 8 64 = N 0 33 := h (8, 64, 33) (by decide)
  have h4 : M 2 4 = N 0 45 := h (2, 4, 45) (by decide)
  have h5 : M 2 5 = N 0 37 := h (2, 5, 37) (by decide)
  have c1 : (1 : Int32).toInt = 1 := by decide
  have c114 : (114 : Int32).toInt = 114 := by decide
  have c153 : (153 : Int32).toInt = 153 := by decide
  have c154 : (154 : Int32).toInt = 154 := by decide
  have e45 : mst M 2 4 (M 2 4 + (1 : Int32)) 2 4 = N 0 45 + (1 : Int32) := by rw [mst_eq, h4]
  have e5 : mst (mst M 2 4 (M 2 4 + (1 : Int32))) 2 4 (0 : Int32) 2 5 = N 0 37 := by rw [mst_ne (by decide), mst_ne (by decide), h5]
  unfold f_P_moveDot_m dotR; dsimp only
  rw [h64, e45, e5, h4]
  by_cases k : ((N 0 33) &&& (128 : Int32)) = 0
  · rw [if_pos k, if_pos ((and_le0 (by decide)).mpr k)]; exact ⟨h, hd⟩
  · rw [if_neg k, if_neg (fun e => k ((and_le0 (by decide)).mp e))]
    have h1 := h.up (c := 2) (k := 4) (j := 45) (by decide) (N 0 45 + (1 : Int32))
    have hd1 : (N 0 45 + (1 : Int32)).toInt = (N 0 45).toInt + 1 := a1_ti (by have := hd.2; omega)
    have hl1 : (N 0 37 + (1 : Int32)).toInt = (N 0 37).toInt + 1 := a1_ti (by have := hl.2; omega)
    have dr : ∀ y, DR (frR (mst (mst (mst N 0 45 (N 0 45 + (1 : Int32))) 0 45 (0 : Int32)) 0 37 y)) := by
      intro y; unfold DR; rw [frR_45, mst_ne (by decide), mst_eq]; decide
    by_cases k1 : (N 0 45 + (1 : Int32)) = (114 : Int32)
    · have k2 : (114 : Int32) ≤ (N 0 45 + (1 : Int32)) := by rw [k1]; decide
      rw [if_pos k1, if_pos k2]
      have h2 := h1.up (c := 2) (k := 4) (j := 45) (by decide) 0
      by_cases k2 : N 0 37 = (153 : Int32)
      · rw [if_pos k2, if_pos (by rw [k2]; decide)]; exact ⟨dot_j1 h2 0, dr 0⟩
      · rw [if_neg k2, if_neg (by rw [ti_eq] at k2; rw [ti_le, hl1]; omega)]; exact ⟨dot_j1 h2 _, dr _⟩
    · rw [if_neg k1, if_neg (by rw [ti_eq] at k1; rw [ti_le, hd1]; have := hd.2; omega)]
      refine ⟨h1, ?_⟩
      unfold DR; rw [mst_eq, hd1]
      rw [ti_eq] at k1
      have := hd.2; have := hd.1; omega
theorem sig {M N : Mem} (h : RP M N) (hst : 0 ≤ (f_R_state_v N).toInt ∧ (f_R_state_v N).toInt < 4) : RP (f_P_lookAtSignal_m M) (mst (if f_R_isSignal_v N = 0 then N else if N 0 46 = 0 then mst N 0 31 ((N 0 31) ||| (2 : Int32)) else N) 0 46 (f_R_isSignal_v N)) := by
  have h64 : M 8 64 = N 0 33 := h.g (by decide)
  have h65 : M 8 65 = N 0 34 := h.g (by decide)
  have h69 : M 8 69 = N 0 38 := h.g (by decide)
  have h5 : M 2 5 = N 0 37 := h.g (by decide)
  have h7 : M 2 7 = N 0 46 := h.g (by decide)
  have h15 : M 8 15 = N 0 31 := h.g (by decide)
  have h6 : M 2 6 = f_R_state_v N := h.2
  have j1 : ∀ x : Int32, RP (f_P_lookAtSignal_j1_m M x) (mst (if x = 0 then N else if N 0 46 = 0 then mst N 0 31 ((N 0 31) ||| (2 : Int32)) else N) 0 46 x) := by
    intro x
    unfold f_P_lookAtSignal_j1_m f_P_lookAtSignal_j2_m; dsimp only
    rw [h7, h15]
    by_cases k : x = 0
    · rw [if_pos k, if_pos k]; exact h.up (c := 2) (k := 7) (j := 46) (by decide) (by decide) _
    · rw [if_neg k, if_neg k]
      split
      · exact (h.up (c := 8) (k := 15) (j := 31) (by decide) (by decide) _).up (c := 2) (k := 7) (j := 46) (by decide) (by decide) _
      · exact h.up (c := 2) (k := 7) (j := 46) (by decide) (by decide) _
  have hs : f_R_isSignal_v N = (if ((N 0 33) &&& (128 : Int32)) = 0 then 0 else if f_P_rowSignals_v M = 0 then (if f_P_stateSignals_v M = 0 then 0 else 1) else 1) := by
    unfold f_R_isSignal_v f_P_rowSignals_v f_P_stateSignals_v f_R_isSignal_j3_v f_R_isSignal_j4_v f_R_isSignal_j5_v f_R_isSignal_j6_v f_R_isSignal_j2_v f_R_isSignal_j1_v f_P_rowSignals_j2_v f_P_rowSignals_j1_v f_P_stateSignals_j2_v f_P_stateSignals_j1_v; dsimp only
    rw [h65, h69, h5, h6]
    simp only [and_le0 (k := 64) (by decide), and_le0 (k := 32) (by decide), and_le0 (k := 16) (by decide), and_le0 (k := 8) (by decide)]
    by_cases k0 : ((N 0 33) &&& (128 : Int32)) = 0
    · rw [if_pos k0, if_pos k0]
    rw [if_neg k0, if_neg k0]
    rcases kind4 hst with e | e | e | e <;> rw [e]
    · by_cases a1 : (N 0 34 &&& (64 : Int32)) = 0 <;> by_cases a2 : N 0 37 = N 0 38 <;> by_cases a3 : (N 0 34 &&& (8 : Int32)) = 0 <;> by_cases a4 : (N 0 34 &&& (16 : Int32)) = 0 <;> by_cases a5 : (N 0 34 &&& (32 : Int32)) = 0 <;> simp (decide := true) [a1, a2, a3, a4, a5, show ((8 : Int32) <<< ((0 : Int32) &&& (31 : Int32))) = 8 from by decide]
    · by_cases a1 : (N 0 34 &&& (64 : Int32)) = 0 <;> by_cases a2 : N 0 37 = N 0 38 <;> by_cases a3 : (N 0 34 &&& (8 : Int32)) = 0 <;> by_cases a4 : (N 0 34 &&& (16 : Int32)) = 0 <;> by_cases a5 : (N 0 34 &&& (32 : Int32)) = 0 <;> simp (decide := true) [a1, a2, a3, a4, a5, show ((8 : Int32) <<< ((1 : Int32) &&& (31 : Int32))) = 16 from by decide]
    · by_cases a1 : (N 0 34 &&& (64 : Int32)) = 0 <;> by_cases a2 : N 0 37 = N 0 38 <;> by_cases a3 : (N 0 34 &&& (8 : Int32)) = 0 <;> by_cases a4 : (N 0 34 &&& (16 : Int32)) = 0 <;> by_cases a5 : (N 0 34 &&& (32 : Int32)) = 0 <;> simp (decide := true) [a1, a2, a3, a4, a5, show ((8 : Int32) <<< ((2 : Int32) &&& (31 : Int32))) = 32 from by decide]
    · by_cases a1 : (N 0 34 &&& (64 : Int32)) = 0 <;> by_cases a2 : N 0 37 = N 0 38 <;> by_cases a3 : (N 0 34 &&& (8 : Int32)) = 0 <;> by_cases a4 : (N 0 34 &&& (16 : Int32)) = 0 <;> by_cases a5 : (N 0 34 &&& (32 : Int32)) = 0 <;> simp (decide := true) [a1, a2, a3, a4, a5]
  unfold f_P_lookAtSignal_m f_P_lookAtSignal_j3_m f_P_lookAtSignal_j4_m; dsimp only
  rw [h64, hs]
  split
  · exact j1 0
  · split
    · split
      · exact j1 0
      · exact j1 1
    · exact j1 1
