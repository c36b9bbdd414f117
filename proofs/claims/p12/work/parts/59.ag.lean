/-! A store does not look at the registers. -/
theorem n17 {M : Mem} {k c : Nat} {x : Int32} (h : ¬ c = 17) : mst M 17 k x c = M c := mst_no h
theorem c17 {M : Mem} {k c i : Nat} {x v : Int32} (h : ¬ c = 17) : mst (mst M 17 k x) c i v = mst (mst M c i v) 17 k x := mst_co2 (Ne.symm h)
theorem ag_load (M : Mem) (k : Nat) (x a : Int32) : f_Y_load_v (mst M 17 k x) a = f_Y_load_v M a := by
  have e : ∀ c : Nat, ¬ c = 17 → mst M 17 k x c = M c := fun c hc => mst_no hc
  unfold f_Y_load_v f_Y_load_j1_v f_K_loadRam_v f_K_loadRam_j1_v f_K_loadRom_v f_K_loadRom_j1_v f_P_load_v f_P_load_j1_v f_P_load_j2_v f_P_load_j3_v
  simp only [e 1 (by decide), e 2 (by decide), e 6 (by decide), e 7 (by decide), e 8 (by decide), e 9 (by decide), e 10 (by decide), e 11 (by decide), e 12 (by decide)]
theorem ag_find (M : Mem) (k : Nat) (x : Int32) : f_P_findState_m (mst M 17 k x) = mst (f_P_findState_m M) 17 k x := by
  unfold f_P_findState_m f_P_findState_j2_m f_P_findState_j1_m; dsimp only
  rw [n17 (c := 8) (by decide), n17 (c := 2) (by decide)]
  repeat' split
  all_goals simp only [c17 (show ¬ 2 = 17 by decide)]
theorem ag_pst (M : Mem) (k : Nat) (x p v : Int32) : f_P_store_m (mst M 17 k x) p v = mst (f_P_store_m M p v) 17 k x := by
  unfold f_P_store_m f_P_store_j1_m f_P_clearDivider_m; dsimp only
  repeat' split
  all_goals simp only [c17 (show ¬ 8 = 17 by decide), c17 (show ¬ 2 = 17 by decide), ag_find]
theorem ag_settle (M : Mem) (k : Nat) (x : Int32) : f_K_settle_m (mst M 17 k x) = mst (f_K_settle_m M) 17 k x := by
  have j2 : ∀ (X : Mem) (y : Int32), f_K_settle_j2_m (mst X 17 k x) y = mst (f_K_settle_j2_m X y) 17 k x := by
    intro X y; unfold f_K_settle_j2_m; dsimp only; rw [c17 (by decide)]
  have j1 : ∀ y : Int32, f_K_settle_j1_m (mst M 17 k x) y = mst (f_K_settle_j1_m M y) 17 k x := by
    intro y
    unfold f_K_settle_j1_m f_K_settle_j3_m; dsimp only
    rw [c17 (c := 1) (by decide)]
    generalize mst M 1 4 y = A
    rw [n17 (c := 1) (by decide), c17 (c := 1) (by decide)]
    generalize mst A 1 5 ((A 1 8) &&& (7 : Int32)) = B
    rw [n17 (c := 1) (by decide)]
    repeat' split
    all_goals exact j2 _ _
  unfold f_K_settle_m f_K_settle_j4_m f_K_settle_j5_m
  rw [n17 (c := 1) (by decide)]
  repeat' split
  all_goals exact j1 _
theorem ag_ctl (M : Mem) (k : Nat) (x a v : Int32) : f_K_control_m (mst M 17 k x) a v = mst (f_K_control_m M a v) 17 k x := by
  have h1 : f_K_controlOne_m (mst M 17 k x) a v = mst (f_K_controlOne_m M a v) 17 k x := by
    unfold f_K_controlOne_m f_K_controlOne_j3_m f_K_controlOne_j2_m f_K_controlOne_j1_m; dsimp only
    repeat' split
    all_goals rw [c17 (by decide)]
  have h2 : f_K_controlTwo_m (mst M 17 k x) a v = mst (f_K_controlTwo_m M a v) 17 k x := by
    unfold f_K_controlTwo_m f_K_controlTwo_j3_m f_K_controlTwo_j2_m f_K_controlTwo_j1_m; dsimp only
    repeat' split
    all_goals first | rw [c17 (by decide)] | rfl
  have h3 : f_K_controlThree_m (mst M 17 k x) a v = mst (f_K_controlThree_m M a v) 17 k x := by
    unfold f_K_controlThree_m f_K_controlThree_j2_m f_K_controlThree_j1_m; dsimp only
    rw [n17 (c := 1) (by decide)]
    repeat' split
    all_goals first | rw [c17 (by decide)] | rfl
  unfold f_K_control_m f_K_control_j1_m; dsimp only
  rw [n17 (c := 1) (by decide), h1, h2, h3]
  repeat' split
  all_goals first | rfl | rw [ag_settle]
theorem ag_dma (k : Nat) (x v : Int32) : ∀ (n : Nat) (i : Int32) (M : Mem), 0 ≤ i.toInt → i.toInt ≤ 160 → 160 < i.toInt + n → f_Y_store_l1_m v n i (mst M 17 k x) = mst (f_Y_store_l1_m v n i M) 17 k x := by
  intro n
  induction n with
  | zero => intro i M h1 h2 h3; exact absurd h3 (by omega)
  | succ n ih =>
    intro i M h1 h2 h3
    rw [f_Y_store_l1_m_s, f_Y_store_l1_m_s]; dsimp only
    by_cases hc : (160 : Int32) ≤ i
    · rw [if_pos hc, if_pos hc]; rfl
    · rw [if_neg hc, if_neg hc, ag_load, c17 (by decide)]
      have h160 : (160 : Int32).toInt = 160 := by decide
      rw [ti_le] at hc
      have h7 := a1_ti (a := i) (by omega)
      exact ih _ _ (by omega) (by omega) (by omega)
theorem ag_st (M : Mem) (k : Nat) (x a v : Int32) : f_Y_store_m (mst M 17 k x) a v = mst (f_Y_store_m M a v) 17 k x := by
  have j2 : f_Y_store_j2_m (mst M 17 k x) a v = mst (f_Y_store_j2_m M a v) 17 k x := by
    unfold f_Y_store_j2_m f_Y_store_j1_m; dsimp only
    rw [ag_pst]
    repeat' split
    · rfl
    · exact ag_dma k x v 161 0 _ (by decide) (by decide) (by decide)
    · rfl
  have hr : f_K_storeRam_m (mst M 17 k x) a v = mst (f_K_storeRam_m M a v) 17 k x := by
    unfold f_K_storeRam_m f_K_storeRam_j2_m f_K_storeRam_j1_m; dsimp only
    rw [n17 (c := 1) (by decide)]
    repeat' split
    all_goals first | rfl | rw [c17 (by decide)]
  unfold f_Y_store_m f_Y_store_j1_m; dsimp only
  rw [j2, hr, ag_ctl]
  repeat' split
  all_goals first | rfl | rw [c17 (by decide)]
