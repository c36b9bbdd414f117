theorem q_c (X : Mem) {c : Nat} (h : ¬ c = 5 ∧ ¬ c = 17) : f_Q_reset_m X c = X c := by
  unfold f_Q_reset_m f_Q_setPair_m f_Q_setPair_j1_m; simp (decide := true) only [if_false, mst_no h.1, mst_no h.2]
theorem qr_17 (X : Mem) {j : Nat} (h : 8 ≤ j) : f_Q_reset_m X 17 j = X 17 j := by
  have e : ∀ (Y : Mem) (k : Nat) (v : Int32), k < 8 → mst Y 17 k v 17 j = Y 17 j := fun Y k v hk => mst_ne (by omega)
  have e0 : ∀ (Y : Mem) (v : Int32), f_Q_setPair_m Y (0 : Int32) v 17 j = Y 17 j := fun Y v => by
    show mst (mst Y 17 0 _) 17 1 _ 17 j = _; rw [e _ _ _ (by decide), e _ _ _ (by decide)]
  have e1 : ∀ (Y : Mem) (v : Int32), f_Q_setPair_m Y (1 : Int32) v 17 j = Y 17 j := fun Y v => by
    show mst (mst Y 17 2 _) 17 3 _ 17 j = _; rw [e _ _ _ (by decide), e _ _ _ (by decide)]
  have e2 : ∀ (Y : Mem) (v : Int32), f_Q_setPair_m Y (2 : Int32) v 17 j = Y 17 j := fun Y v => by
    show mst (mst Y 17 4 _) 17 5 _ 17 j = _; rw [e _ _ _ (by decide), e _ _ _ (by decide)]
  unfold f_Q_reset_m; (try dsimp only)
  simp only [mst_no (show ¬ 17 = 5 by decide), e0, e1, e2]
  rw [e _ _ _ (by decide), e _ _ _ (by decide)]
def zR (N : Mem) : Mem := f_R_zeros7_m (f_R_zeros6_m (f_R_zeros5_m (f_R_zeros4_m (f_R_zeros3_m N))))
theorem r_c (N : Mem) {c : Nat} (h : ¬ c = 0 ∧ ¬ c = 8) : f_R_reset_m N c = zR N c := by
  unfold f_R_reset_m zR; simp only [mst_no h.1, mst_no h.2]
theorem r_8 (N : Mem) {j : Nat} (h : 8 ≤ j) : f_R_reset_m N 8 j = zR N 8 j := by
  have e : ∀ (Y : Mem) (k : Nat) (v : Int32), k < 8 → mst Y 8 k v 8 j = Y 8 j := fun Y k v hk => mst_ne (by omega)
  unfold f_R_reset_m; simp only [mst_no (show ¬ 8 = 0 by decide)]
  rw [e _ _ _ (by decide), e _ _ _ (by decide), e _ _ _ (by decide), e _ _ _ (by decide), e _ _ _ (by decide), e _ _ _ (by decide), e _ _ _ (by decide), e _ _ _ (by decide)]
  simp only [mst_no (show ¬ 8 = 0 by decide)]; rfl
theorem z_c (N : Mem) {c : Nat} (h : c ≤ 2 ∨ 8 ≤ c) : zR N c = N c := by
  funext j; unfold zR
  rw [fm_R7, if_neg (by omega), fm_R6, if_neg (by omega), fm_R5, if_neg (by omega), fm_R4, if_neg (by omega), fm_R3, if_neg (by omega)]
theorem z_k (N : Mem) (j : Nat) : zR N 3 j = (if j < 8192 then 0 else N 3 j) ∧ zR N 4 j = (if j < 1024 then 0 else N 4 j) ∧ zR N 5 j = (if j < 160 then 0 else N 5 j) ∧ zR N 6 j = (if j < 127 then 0 else N 6 j) ∧ zR N 7 j = (if j < 160 then 0 else N 7 j) := by
  unfold zR
  refine ⟨?_, ?_, ?_, ?_, ?_⟩
  · rw [fm_R7, if_neg (by omega), fm_R6, if_neg (by omega), fm_R5, if_neg (by omega), fm_R4, if_neg (by omega), fm_R3]; simp only [true_and]
  · rw [fm_R7, if_neg (by omega), fm_R6, if_neg (by omega), fm_R5, if_neg (by omega), fm_R4, fm_R3, if_neg (c := 4 = 3 ∧ j < 8192) (by omega)]; simp only [true_and]
  · rw [fm_R7, if_neg (by omega), fm_R6, if_neg (by omega), fm_R5, fm_R4, if_neg (c := 5 = 4 ∧ j < 1024) (by omega), fm_R3, if_neg (c := 5 = 3 ∧ j < 8192) (by omega)]; simp only [true_and]
  · rw [fm_R7, if_neg (by omega), fm_R6, fm_R5, if_neg (c := 6 = 5 ∧ j < 160) (by omega), fm_R4, if_neg (c := 6 = 4 ∧ j < 1024) (by omega), fm_R3, if_neg (c := 6 = 3 ∧ j < 8192) (by omega)]; simp only [true_and]
  · rw [fm_R7, fm_R6, if_neg (c := 7 = 6 ∧ j < 127) (by omega), fm_R5, if_neg (c := 7 = 5 ∧ j < 160) (by omega), fm_R4, if_neg (c := 7 = 4 ∧ j < 1024) (by omega), fm_R3, if_neg (c := 7 = 3 ∧ j < 8192) (by omega)]; simp only [true_and]
theorem y_c (X : Mem) {c : Nat} (h : c ≤ 8 ∨ 13 ≤ c) : f_Y_reset_m X c = X c := by
  funext j; unfold f_Y_reset_m; (try dsimp only)
  rw [fm_A12, if_neg (by omega), fm_A11, if_neg (by omega), fm_A10, if_neg (by omega), fm_A9, if_neg (by omega)]
theorem y_k (X : Mem) (j : Nat) : f_Y_reset_m X 9 j = (if j < 8192 then 0 else X 9 j) ∧ f_Y_reset_m X 10 j = (if j < 160 then 0 else X 10 j) ∧ f_Y_reset_m X 11 j = (if j < 1024 then 0 else X 11 j) ∧ f_Y_reset_m X 12 j = (if j < 128 then 0 else X 12 j) := by
  unfold f_Y_reset_m; (try dsimp only)
  refine ⟨?_, ?_, ?_, ?_⟩
  · rw [fm_A12, if_neg (by omega), fm_A11, if_neg (by omega), fm_A10, if_neg (by omega), fm_A9]; simp only [true_and]
  · rw [fm_A12, if_neg (by omega), fm_A11, if_neg (by omega), fm_A10, fm_A9, if_neg (c := 10 = 9 ∧ j < 8192) (by omega)]; simp only [true_and]
  · rw [fm_A12, if_neg (by omega), fm_A11, fm_A10, if_neg (c := 11 = 10 ∧ j < 160) (by omega), fm_A9, if_neg (c := 11 = 9 ∧ j < 8192) (by omega)]; simp only [true_and]
  · rw [fm_A12, fm_A11, if_neg (c := 12 = 11 ∧ j < 1024) (by omega), fm_A10, if_neg (c := 12 = 10 ∧ j < 160) (by omega), fm_A9, if_neg (c := 12 = 9 ∧ j < 8192) (by omega)]; simp only [true_and]
theorem s_c (X : Mem) {c : Nat} (h : ¬ c = 13) : f_S_reset_m X c = X c := by
  funext j; unfold f_S_reset_m; (try dsimp only); rw [fm_A13, if_neg (fun t => h t.1)]
theorem s_13 (X : Mem) (j : Nat) : f_S_reset_m X 13 j = if j < 160 then 0 else X 13 j := by
  unfold f_S_reset_m; (try dsimp only); rw [fm_A13]; simp only [true_and]
theorem k_eq (M : Mem) : f_K_reset_m M = mst (mst (mst (mst (mst (mst (mst M 1 7 (0 : Int32)) 1 8 (1 : Int32)) 1 9 (0 : Int32)) 1 10 (0 : Int32)) 1 4 (if M 1 2 = 0 then 0 else if M 1 3 = 0 then 1 else 0)) 1 5 (1 : Int32)) 1 6 (0 : Int32) := by
  unfold f_K_reset_m f_K_settle_m f_K_settle_j4_m f_K_settle_j5_m f_K_settle_j1_m f_K_settle_j3_m f_K_settle_j2_m; (try dsimp only)
  simp only [mst_eq, mst_ne (show ¬ 2 = 10 by decide), mst_ne (show ¬ 2 = 9 by decide), mst_ne (show ¬ 2 = 8 by decide), mst_ne (show ¬ 2 = 7 by decide), mst_ne (show ¬ 3 = 10 by decide), mst_ne (show ¬ 3 = 9 by decide), mst_ne (show ¬ 3 = 8 by decide), mst_ne (show ¬ 3 = 7 by decide), mst_ne (show ¬ 7 = 10 by decide), mst_ne (show ¬ 7 = 9 by decide), mst_ne (show ¬ 7 = 8 by decide), mst_ne (show ¬ 8 = 4 by decide), mst_ne (show ¬ 8 = 10 by decide), mst_ne (show ¬ 8 = 9 by decide), mst_ne (show ¬ 9 = 5 by decide), mst_ne (show ¬ 9 = 4 by decide), mst_ne (show ¬ 9 = 10 by decide), mst_ne (show ¬ 10 = 5 by decide), mst_ne (show ¬ 10 = 4 by decide), if_true, ite_self]
  have e1 : ((1 : Int32) &&& (7 : Int32)) = 1 := by decide
  rw [e1]
  by_cases h1 : M 1 2 = 0
  · simp only [if_pos h1, ite_self]
  · by_cases h2 : M 1 3 = 0
    · simp only [if_neg h1, if_pos h2, ite_self]
    · simp only [if_neg h1, if_neg h2, ite_self]
theorem p_c (X : Mem) {c : Nat} (h : ¬ c = 2 ∧ ¬ c = 8) : f_P_reset_m X c = X c := by
  funext j; unfold f_P_reset_m; (try dsimp only)
  rw [find_c _ h.1]; simp only [mst_no h.1, mst_no h.2]
  rw [fm_A8, if_neg (fun t => h.2 t.1)]
/-- what is there before the state is found -/
def pR (X : Mem) : Mem := mst (mst (mst (mst (mst (mst (mst (mst (f_A_fill8_m X (0 : Int32)) 8 64 (145 : Int32)) 8 71 (252 : Int32)) 8 15 (1 : Int32)) 2 1 (0 : Int32)) 2 3 (0 : Int32)) 2 4 (0 : Int32)) 2 5 (0 : Int32)) 2 7 (0 : Int32)
theorem pR_8 (X : Mem) {j : Nat} (hj : j < 256) : pR X 8 j = if j = 15 then 1 else if j = 71 then 252 else if j = 64 then 145 else 0 := by
  unfold pR
  simp only [mst_no (show ¬ 8 = 2 by decide)]
  by_cases h1 : j = 15
  · subst h1; rw [mst_eq, if_pos rfl]
  · rw [mst_ne h1, if_neg h1]
    by_cases h2 : j = 71
    · subst h2; rw [mst_eq, if_pos rfl]
    · rw [mst_ne h2, if_neg h2]
      by_cases h3 : j = 64
      · subst h3; rw [mst_eq, if_pos rfl]
      · rw [mst_ne h3, if_neg h3, fm_A8, if_pos ⟨rfl, hj⟩]
theorem pR_2 (X : Mem) : pR X 2 1 = 0 ∧ pR X 2 2 = X 2 2 ∧ pR X 2 3 = 0 ∧ pR X 2 4 = 0 ∧ pR X 2 5 = 0 ∧ pR X 2 7 = 0 := by
  unfold pR
  refine ⟨?_, ?_, ?_, ?_, ?_, ?_⟩
  · rw [mst_ne (by decide), mst_ne (by decide), mst_ne (by decide), mst_ne (by decide), mst_eq]
  · rw [mst_ne (by decide), mst_ne (by decide), mst_ne (by decide), mst_ne (by decide), mst_ne (by decide), mst_no (by decide), mst_no (by decide), mst_no (by decide), fm_A8, if_neg (by omega)]
  · rw [mst_ne (by decide), mst_ne (by decide), mst_ne (by decide), mst_eq]
  · rw [mst_ne (by decide), mst_ne (by decide), mst_eq]
  · rw [mst_ne (by decide), mst_eq]
  · rw [mst_eq]
theorem r0_9 (N : Mem) : f_R_reset_m N 0 9 = 0 := by
  unfold f_R_reset_m; (try dsimp only); generalize f_R_zeros7_m (f_R_zeros6_m (f_R_zeros5_m (f_R_zeros4_m (f_R_zeros3_m N)))) = Z; rfl
theorem r0_11 (N : Mem) : f_R_reset_m N 0 11 = 1 := by
  unfold f_R_reset_m; (try dsimp only); generalize f_R_zeros7_m (f_R_zeros6_m (f_R_zeros5_m (f_R_zeros4_m (f_R_zeros3_m N)))) = Z; rfl
theorem r0_12 (N : Mem) : f_R_reset_m N 0 12 = 0 := by
  unfold f_R_reset_m; (try dsimp only); generalize f_R_zeros7_m (f_R_zeros6_m (f_R_zeros5_m (f_R_zeros4_m (f_R_zeros3_m N)))) = Z; rfl
theorem r0_13 (N : Mem) : f_R_reset_m N 0 13 = 0 := by
  unfold f_R_reset_m; (try dsimp only); generalize f_R_zeros7_m (f_R_zeros6_m (f_R_zeros5_m (f_R_zeros4_m (f_R_zeros3_m N)))) = Z; rfl
theorem r0_14 (N : Mem) : f_R_reset_m N 0 14 = 1 := by
  unfold f_R_reset_m; (try dsimp only); generalize f_R_zeros7_m (f_R_zeros6_m (f_R_zeros5_m (f_R_zeros4_m (f_R_zeros3_m N)))) = Z; rfl
theorem r0_15 (N : Mem) : f_R_reset_m N 0 15 = 0 := by
  unfold f_R_reset_m; (try dsimp only); generalize f_R_zeros7_m (f_R_zeros6_m (f_R_zeros5_m (f_R_zeros4_m (f_R_zeros3_m N)))) = Z; rfl
theorem r0_16 (N : Mem) : f_R_reset_m N 0 16 = 1 := by
  unfold f_R_reset_m; (try dsimp only); generalize f_R_zeros7_m (f_R_zeros6_m (f_R_zeros5_m (f_R_zeros4_m (f_R_zeros3_m N)))) = Z; rfl
theorem r0_18 (N : Mem) : f_R_reset_m N 0 18 = 65534 := by
  unfold f_R_reset_m; (try dsimp only); generalize f_R_zeros7_m (f_R_zeros6_m (f_R_zeros5_m (f_R_zeros4_m (f_R_zeros3_m N)))) = Z; rfl
theorem r0_19 (N : Mem) : f_R_reset_m N 0 19 = 256 := by
  unfold f_R_reset_m; (try dsimp only); generalize f_R_zeros7_m (f_R_zeros6_m (f_R_zeros5_m (f_R_zeros4_m (f_R_zeros3_m N)))) = Z; rfl
theorem r0_21 (N : Mem) : f_R_reset_m N 0 21 = 0 := by
  unfold f_R_reset_m; (try dsimp only); generalize f_R_zeros7_m (f_R_zeros6_m (f_R_zeros5_m (f_R_zeros4_m (f_R_zeros3_m N)))) = Z; rfl
theorem r0_22 (N : Mem) : f_R_reset_m N 0 22 = 0 := by
  unfold f_R_reset_m; (try dsimp only); generalize f_R_zeros7_m (f_R_zeros6_m (f_R_zeros5_m (f_R_zeros4_m (f_R_zeros3_m N)))) = Z; rfl
theorem r0_23 (N : Mem) : f_R_reset_m N 0 23 = 0 := by
  unfold f_R_reset_m; (try dsimp only); generalize f_R_zeros7_m (f_R_zeros6_m (f_R_zeros5_m (f_R_zeros4_m (f_R_zeros3_m N)))) = Z; rfl
theorem r0_24 (N : Mem) : f_R_reset_m N 0 24 = 0 := by
  unfold f_R_reset_m; (try dsimp only); generalize f_R_zeros7_m (f_R_zeros6_m (f_R_zeros5_m (f_R_zeros4_m (f_R_zeros3_m N)))) = Z; rfl
theorem r0_26 (N : Mem) : f_R_reset_m N 0 26 = 0 := by
  unfold f_R_reset_m; (try dsimp only); generalize f_R_zeros7_m (f_R_zeros6_m (f_R_zeros5_m (f_R_zeros4_m (f_R_zeros3_m N)))) = Z; rfl
theorem r0_27 (N : Mem) : f_R_reset_m N 0 27 = 0 := by
  unfold f_R_reset_m; (try dsimp only); generalize f_R_zeros7_m (f_R_zeros6_m (f_R_zeros5_m (f_R_zeros4_m (f_R_zeros3_m N)))) = Z; rfl
theorem r0_28 (N : Mem) : f_R_reset_m N 0 28 = 0 := by
  unfold f_R_reset_m; (try dsimp only); generalize f_R_zeros7_m (f_R_zeros6_m (f_R_zeros5_m (f_R_zeros4_m (f_R_zeros3_m N)))) = Z; rfl
theorem r0_29 (N : Mem) : f_R_reset_m N 0 29 = 0 := by
  unfold f_R_reset_m; (try dsimp only); generalize f_R_zeros7_m (f_R_zeros6_m (f_R_zeros5_m (f_R_zeros4_m (f_R_zeros3_m N)))) = Z; rfl
theorem r0_30 (N : Mem) : f_R_reset_m N 0 30 = 0 := by
  unfold f_R_reset_m; (try dsimp only); generalize f_R_zeros7_m (f_R_zeros6_m (f_R_zeros5_m (f_R_zeros4_m (f_R_zeros3_m N)))) = Z; rfl
theorem r0_31 (N : Mem) : f_R_reset_m N 0 31 = 1 := by
  unfold f_R_reset_m; (try dsimp only); generalize f_R_zeros7_m (f_R_zeros6_m (f_R_zeros5_m (f_R_zeros4_m (f_R_zeros3_m N)))) = Z; rfl
theorem r0_32 (N : Mem) : f_R_reset_m N 0 32 = 0 := by
  unfold f_R_reset_m; (try dsimp only); generalize f_R_zeros7_m (f_R_zeros6_m (f_R_zeros5_m (f_R_zeros4_m (f_R_zeros3_m N)))) = Z; rfl
theorem r0_33 (N : Mem) : f_R_reset_m N 0 33 = 145 := by
  unfold f_R_reset_m; (try dsimp only); generalize f_R_zeros7_m (f_R_zeros6_m (f_R_zeros5_m (f_R_zeros4_m (f_R_zeros3_m N)))) = Z; rfl
theorem r0_34 (N : Mem) : f_R_reset_m N 0 34 = 0 := by
  unfold f_R_reset_m; (try dsimp only); generalize f_R_zeros7_m (f_R_zeros6_m (f_R_zeros5_m (f_R_zeros4_m (f_R_zeros3_m N)))) = Z; rfl
theorem r0_35 (N : Mem) : f_R_reset_m N 0 35 = 0 := by
  unfold f_R_reset_m; (try dsimp only); generalize f_R_zeros7_m (f_R_zeros6_m (f_R_zeros5_m (f_R_zeros4_m (f_R_zeros3_m N)))) = Z; rfl
theorem r0_36 (N : Mem) : f_R_reset_m N 0 36 = 0 := by
  unfold f_R_reset_m; (try dsimp only); generalize f_R_zeros7_m (f_R_zeros6_m (f_R_zeros5_m (f_R_zeros4_m (f_R_zeros3_m N)))) = Z; rfl
theorem r0_37 (N : Mem) : f_R_reset_m N 0 37 = 0 := by
  unfold f_R_reset_m; (try dsimp only); generalize f_R_zeros7_m (f_R_zeros6_m (f_R_zeros5_m (f_R_zeros4_m (f_R_zeros3_m N)))) = Z; rfl
theorem r0_38 (N : Mem) : f_R_reset_m N 0 38 = 0 := by
  unfold f_R_reset_m; (try dsimp only); generalize f_R_zeros7_m (f_R_zeros6_m (f_R_zeros5_m (f_R_zeros4_m (f_R_zeros3_m N)))) = Z; rfl
theorem r0_39 (N : Mem) : f_R_reset_m N 0 39 = 0 := by
  unfold f_R_reset_m; (try dsimp only); generalize f_R_zeros7_m (f_R_zeros6_m (f_R_zeros5_m (f_R_zeros4_m (f_R_zeros3_m N)))) = Z; rfl
theorem r0_40 (N : Mem) : f_R_reset_m N 0 40 = 252 := by
  unfold f_R_reset_m; (try dsimp only); generalize f_R_zeros7_m (f_R_zeros6_m (f_R_zeros5_m (f_R_zeros4_m (f_R_zeros3_m N)))) = Z; rfl
theorem r0_41 (N : Mem) : f_R_reset_m N 0 41 = 0 := by
  unfold f_R_reset_m; (try dsimp only); generalize f_R_zeros7_m (f_R_zeros6_m (f_R_zeros5_m (f_R_zeros4_m (f_R_zeros3_m N)))) = Z; rfl
theorem r0_42 (N : Mem) : f_R_reset_m N 0 42 = 0 := by
  unfold f_R_reset_m; (try dsimp only); generalize f_R_zeros7_m (f_R_zeros6_m (f_R_zeros5_m (f_R_zeros4_m (f_R_zeros3_m N)))) = Z; rfl
theorem r0_43 (N : Mem) : f_R_reset_m N 0 43 = 0 := by
  unfold f_R_reset_m; (try dsimp only); generalize f_R_zeros7_m (f_R_zeros6_m (f_R_zeros5_m (f_R_zeros4_m (f_R_zeros3_m N)))) = Z; rfl
theorem r0_44 (N : Mem) : f_R_reset_m N 0 44 = 0 := by
  unfold f_R_reset_m; (try dsimp only); generalize f_R_zeros7_m (f_R_zeros6_m (f_R_zeros5_m (f_R_zeros4_m (f_R_zeros3_m N)))) = Z; rfl
theorem r0_45 (N : Mem) : f_R_reset_m N 0 45 = 0 := by
  unfold f_R_reset_m; (try dsimp only); generalize f_R_zeros7_m (f_R_zeros6_m (f_R_zeros5_m (f_R_zeros4_m (f_R_zeros3_m N)))) = Z; rfl
theorem r0_46 (N : Mem) : f_R_reset_m N 0 46 = 0 := by
  unfold f_R_reset_m; (try dsimp only); generalize f_R_zeros7_m (f_R_zeros6_m (f_R_zeros5_m (f_R_zeros4_m (f_R_zeros3_m N)))) = Z; rfl
theorem r0_47 (N : Mem) : f_R_reset_m N 0 47 = 0 := by
  unfold f_R_reset_m; (try dsimp only); generalize f_R_zeros7_m (f_R_zeros6_m (f_R_zeros5_m (f_R_zeros4_m (f_R_zeros3_m N)))) = Z; rfl
theorem r0_49 (N : Mem) : f_R_reset_m N 0 49 = 0 := by
  unfold f_R_reset_m; (try dsimp only); generalize f_R_zeros7_m (f_R_zeros6_m (f_R_zeros5_m (f_R_zeros4_m (f_R_zeros3_m N)))) = Z; rfl
theorem r0_50 (N : Mem) : f_R_reset_m N 0 50 = 0 := by
  unfold f_R_reset_m; (try dsimp only); generalize f_R_zeros7_m (f_R_zeros6_m (f_R_zeros5_m (f_R_zeros4_m (f_R_zeros3_m N)))) = Z; rfl
theorem r8_7 (N : Mem) : f_R_reset_m N 8 7 = 1 := by
  unfold f_R_reset_m; (try dsimp only); generalize f_R_zeros7_m (f_R_zeros6_m (f_R_zeros5_m (f_R_zeros4_m (f_R_zeros3_m N)))) = Z; rfl
theorem r8_6 (N : Mem) : f_R_reset_m N 8 6 = 176 := by
  unfold f_R_reset_m; (try dsimp only); generalize f_R_zeros7_m (f_R_zeros6_m (f_R_zeros5_m (f_R_zeros4_m (f_R_zeros3_m N)))) = Z; rfl
theorem r8_0 (N : Mem) : f_R_reset_m N 8 0 = 0 := by
  unfold f_R_reset_m; (try dsimp only); generalize f_R_zeros7_m (f_R_zeros6_m (f_R_zeros5_m (f_R_zeros4_m (f_R_zeros3_m N)))) = Z; rfl
theorem r8_1 (N : Mem) : f_R_reset_m N 8 1 = 19 := by
  unfold f_R_reset_m; (try dsimp only); generalize f_R_zeros7_m (f_R_zeros6_m (f_R_zeros5_m (f_R_zeros4_m (f_R_zeros3_m N)))) = Z; rfl
theorem r8_2 (N : Mem) : f_R_reset_m N 8 2 = 0 := by
  unfold f_R_reset_m; (try dsimp only); generalize f_R_zeros7_m (f_R_zeros6_m (f_R_zeros5_m (f_R_zeros4_m (f_R_zeros3_m N)))) = Z; rfl
theorem r8_3 (N : Mem) : f_R_reset_m N 8 3 = 216 := by
  unfold f_R_reset_m; (try dsimp only); generalize f_R_zeros7_m (f_R_zeros6_m (f_R_zeros5_m (f_R_zeros4_m (f_R_zeros3_m N)))) = Z; rfl
theorem r8_4 (N : Mem) : f_R_reset_m N 8 4 = 1 := by
  unfold f_R_reset_m; (try dsimp only); generalize f_R_zeros7_m (f_R_zeros6_m (f_R_zeros5_m (f_R_zeros4_m (f_R_zeros3_m N)))) = Z; rfl
theorem r8_5 (N : Mem) : f_R_reset_m N 8 5 = 77 := by
  unfold f_R_reset_m; (try dsimp only); generalize f_R_zeros7_m (f_R_zeros6_m (f_R_zeros5_m (f_R_zeros4_m (f_R_zeros3_m N)))) = Z; rfl
theorem r0_8 (N : Mem) : f_R_reset_m N 0 8 = N 0 8 := by
  have e : zR N 0 8 = N 0 8 := by rw [z_c N (by decide)]
  rw [← e]; unfold zR f_R_reset_m; (try dsimp only); generalize f_R_zeros7_m (f_R_zeros6_m (f_R_zeros5_m (f_R_zeros4_m (f_R_zeros3_m N)))) = Z
  repeat (first | rw [mst_ne (by decide)] | rw [mst_no (by decide)])
theorem r0_10 (N : Mem) : f_R_reset_m N 0 10 = N 0 10 := by
  have e : zR N 0 10 = N 0 10 := by rw [z_c N (by decide)]
  rw [← e]; unfold zR f_R_reset_m; (try dsimp only); generalize f_R_zeros7_m (f_R_zeros6_m (f_R_zeros5_m (f_R_zeros4_m (f_R_zeros3_m N)))) = Z
  repeat (first | rw [mst_ne (by decide)] | rw [mst_no (by decide)])
theorem r0_25 (N : Mem) : f_R_reset_m N 0 25 = N 0 25 := by
  have e : zR N 0 25 = N 0 25 := by rw [z_c N (by decide)]
  rw [← e]; unfold zR f_R_reset_m; (try dsimp only); generalize f_R_zeros7_m (f_R_zeros6_m (f_R_zeros5_m (f_R_zeros4_m (f_R_zeros3_m N)))) = Z
  repeat (first | rw [mst_ne (by decide)] | rw [mst_no (by decide)])
theorem q5_7 (X : Mem) : f_Q_reset_m X 5 7 = 65534 := rfl
theorem q5_8 (X : Mem) : f_Q_reset_m X 5 8 = 256 := rfl
theorem q5_3 (X : Mem) : f_Q_reset_m X 5 3 = 0 := rfl
theorem q5_4 (X : Mem) : f_Q_reset_m X 5 4 = 0 := rfl
theorem q5_5 (X : Mem) : f_Q_reset_m X 5 5 = 0 := rfl
theorem q5_9 (X : Mem) : f_Q_reset_m X 5 9 = 0 := rfl
theorem q5_0 (X : Mem) : f_Q_reset_m X 5 0 = 0 := rfl
theorem q5_2 (X : Mem) : f_Q_reset_m X 5 2 = 0 := rfl
theorem q17_7 (X : Mem) : f_Q_reset_m X 17 7 = 1 := rfl
theorem q17_6 (X : Mem) : f_Q_reset_m X 17 6 = 176 := rfl
theorem q17_0 (X : Mem) : f_Q_reset_m X 17 0 = 0 := rfl
theorem q17_1 (X : Mem) : f_Q_reset_m X 17 1 = 19 := rfl
theorem q17_2 (X : Mem) : f_Q_reset_m X 17 2 = 0 := rfl
theorem q17_3 (X : Mem) : f_Q_reset_m X 17 3 = 216 := rfl
theorem q17_4 (X : Mem) : f_Q_reset_m X 17 4 = 1 := rfl
theorem q17_5 (X : Mem) : f_Q_reset_m X 17 5 = 77 := rfl
theorem p_eq (X : Mem) : f_P_reset_m X = f_P_findState_m (pR X) := by unfold f_P_reset_m pR; dsimp only
theorem t_eq (M : Mem) : f_T_startAnew_m M = f_Q_reset_m (f_S_reset_m (f_Y_reset_m (f_P_reset_m (f_K_reset_m M)))) := by unfold f_T_startAnew_m; dsimp only
