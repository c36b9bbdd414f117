/-! The controllers agree. -/
def RB (M N : Mem) : Prop := M 1 2 = N 0 8 ∧ M 1 3 = N 0 10 ∧ M 1 7 = N 0 9 ∧ CN M N ∧ (0 ≤ (N 0 10).toInt ∧ (N 0 10).toInt < 4) ∧ (N 0 8 = 0 → N 0 10 = 0) ∧ isB (N 0 13) ∧ isB (N 0 9) ∧ isB (N 0 8)
theorem RC.b {M N : Mem} (h : RC M N) : RB M N := ⟨h.1, h.2.1, h.2.2.2.2.2.1, h.2.2.2.2.2.2⟩
theorem mod8_a : ∀ j : Fin 512, ((nI j.val) - (nI j.val) / (8 : Int32) * (8 : Int32)) = (nI j.val) &&& (7 : Int32) := by decide +kernel
theorem mod8_and {x : Int32} (h : 0 ≤ x.toInt ∧ x.toInt < 512) : x - x / (8 : Int32) * (8 : Int32) = x &&& (7 : Int32) := by
  obtain ⟨j, hj, rfl⟩ := of_nI (n := 512) h (by decide)
  exact mod8_a ⟨j, hj⟩
theorem kind4 {x : Int32} (h : 0 ≤ x.toInt ∧ x.toInt < 4) : x = 0 ∨ x = 1 ∨ x = 2 ∨ x = 3 := by
  have h9 : x.toInt = 0 ∨ x.toInt = 1 ∨ x.toInt = 2 ∨ x.toInt = 3 := by omega
  rcases h9 with h | h | h | h
  · exact Or.inl (ti_inj (h.trans (by decide)))
  · exact Or.inr (Or.inl (ti_inj (h.trans (by decide))))
  · exact Or.inr (Or.inr (Or.inl (ti_inj (h.trans (by decide)))))
  · exact Or.inr (Or.inr (Or.inr (ti_inj (h.trans (by decide)))))
theorem settle_o (M : Mem) {k : Nat} (hk : ¬ k = 4 ∧ ¬ k = 5 ∧ ¬ k = 6) : f_K_settle_m M 1 k = M 1 k := by
  unfold f_K_settle_m f_K_settle_j4_m f_K_settle_j5_m f_K_settle_j1_m f_K_settle_j3_m f_K_settle_j2_m; dsimp only
  repeat' split
  all_goals rw [mst_ne hk.2.2, mst_ne hk.2.1, mst_ne hk.1]
theorem settle_c (M : Mem) {c : Nat} (hc : ¬ c = 1) : f_K_settle_m M c = M c := by
  unfold f_K_settle_m f_K_settle_j4_m f_K_settle_j5_m f_K_settle_j1_m f_K_settle_j3_m f_K_settle_j2_m; dsimp only
  repeat' split
  all_goals rw [mst_no hc, mst_no hc, mst_no hc]
theorem settle_4 (M : Mem) : f_K_settle_m M 1 4 = if M 1 2 = 0 then 0 else if M 1 3 = 0 then 1 else if M 1 7 = 0 then 0 else 1 := by
  unfold f_K_settle_m f_K_settle_j4_m f_K_settle_j5_m f_K_settle_j1_m f_K_settle_j3_m f_K_settle_j2_m; dsimp only
  repeat' split
  all_goals rw [mst_ne (by decide), mst_ne (by decide), mst_eq]
theorem settle_5 (M : Mem) : f_K_settle_m M 1 5 = (M 1 8 &&& (7 : Int32)) := by
  unfold f_K_settle_m f_K_settle_j4_m f_K_settle_j5_m f_K_settle_j1_m f_K_settle_j3_m f_K_settle_j2_m; dsimp only
  repeat' split
  all_goals rw [mst_ne (by decide), mst_eq, mst_ne (by decide)]
theorem settle_6 (M : Mem) : f_K_settle_m M 1 6 = if M 1 3 = 1 then (if M 1 10 = 0 then 0 else M 1 9) else M 1 9 := by
  have key : ∀ x, f_K_settle_j1_m M x 1 6 = if M 1 3 = 1 then (if M 1 10 = 0 then 0 else M 1 9) else M 1 9 := by
    intro x
    unfold f_K_settle_j1_m f_K_settle_j3_m f_K_settle_j2_m; dsimp only
    rw [mst_ne (by decide), mst_ne (by decide), mst_ne (by decide), mst_ne (by decide), mst_ne (by decide), mst_ne (by decide)]
    split
    · split
      · rw [mst_eq]
      · rw [mst_eq, mst_ne (by decide)]
    · rw [mst_eq, mst_ne (by decide)]
  unfold f_K_settle_m f_K_settle_j4_m f_K_settle_j5_m
  repeat' split
  all_goals exact (key _).trans (by simp_all)
theorem RB.settle {M N : Mem} (h : RB M N) {d : Int32} {ρ : Nat → Int32} (sN : SR d ρ N) : RC (f_K_settle_m M) N := by
  obtain ⟨h2, h3, h7, hc, hk, hi, hm, ho, hin⟩ := h
  refine ⟨?_, ?_, ?_, ?_, ?_, ?_, ?_, hk, hi, hm, ho, hin⟩
  · rw [settle_o M (by decide)]; exact h2
  · rw [settle_o M (by decide)]; exact h3
  · rw [settle_4, h2, h3, h7]; unfold f_R_hasRam_v f_R_hasRam_j2_v f_R_hasRam_j3_v f_R_hasRam_j1_v; rfl
  · rw [settle_5]; unfold f_R_bankHigh_v f_R_bankHigh_j2_v f_R_bankHigh_j1_v
    by_cases i0 : N 0 8 = 0
    · rw [if_pos i0, (hc.1 (hi i0)).1]; decide
    · rw [if_neg i0]
      rcases kind4 hk with e | e | e | e
      · rw [if_pos e, (hc.1 e).1]; decide
      · rw [if_neg (by rw [e]; decide), if_pos e, (hc.2.1 e).1, mod8_and ⟨(sN.f 11).1, Int.lt_of_lt_of_le (sN.f 11).2 (by decide)⟩]
      · rw [if_neg (by rw [e]; decide), if_neg (by rw [e]; decide), if_pos e, (hc.2.2.1 e).1]
      · rw [if_neg (by rw [e]; decide), if_neg (by rw [e]; decide), if_neg (by rw [e]; decide), (hc.2.2.2 e).1, mod8_and ⟨(sN.f 14).1, Int.lt_of_lt_of_le (sN.f 14).2 (by decide)⟩]
  · rw [settle_6, h3]; unfold f_R_bankRam_v f_R_bankRam_j1_v
    rcases kind4 hk with e | e | e | e
    · rw [if_neg (by rw [e]; decide), if_neg (by rw [e]; decide), if_neg (by rw [e]; decide), (hc.1 e).2]
    · rw [if_pos e, if_pos e, (hc.2.1 e).2.2, (hc.2.1 e).2.1]
      rcases hm with hm | hm
      · rw [hm, if_pos rfl, if_neg (by decide)]
      · rw [hm, if_neg (by decide), if_pos rfl]
    · rw [if_neg (by rw [e]; decide), if_neg (by rw [e]; decide), if_neg (by rw [e]; decide), (hc.2.2.1 e).2]
    · rw [if_neg (by rw [e]; decide), if_neg (by rw [e]; decide), if_pos e, (hc.2.2.2 e).2]
  · rw [settle_o M (by decide)]; exact h7
  · unfold CN; rw [settle_o M (by decide), settle_o M (by decide), settle_o M (by decide)]; exact hc
theorem b1 (x : Int32) : isB (x &&& (1 : Int32)) := by
  have h1 := and_lt (x := x) (k := 1) (n := 2) (by decide)
  obtain ⟨j, hj, e⟩ := of_nI (n := 2) h1 (by decide)
  rw [e]
  match j, hj with
  | 0, _ => exact isB_0
  | 1, _ => exact isB_1
/-- one number of the controller changes on both sides -/
theorem RB.one {M N : Mem} (h : RB M N) (i0 : ¬ N 0 8 = 0) (e : N 0 10 = 1) (a v : Int32) : RB (f_K_controlOne_m M a v) (f_R_controls_m N a v) := by
  obtain ⟨h2, h3, h7, hc, hk, hi, hm, ho, hin⟩ := h
  have hc1 := hc.2.1 e
  have k0 : ¬ N 0 10 = 0 := by rw [e]; decide
  have k2 : ¬ N 0 10 = 2 := by rw [e]; decide
  unfold f_K_controlOne_m f_R_controls_m f_K_controlOne_j3_m f_K_controlOne_j2_m f_K_controlOne_j1_m f_R_controls_j3_m f_R_controls_j4_m f_R_controls_j2_m; dsimp only
  simp only [if_neg i0, if_neg k0, if_neg k2, if_pos e]
  by_cases h8 : (8192 : Int32) ≤ a
  · simp only [if_pos h8]
    by_cases h4 : (16384 : Int32) ≤ a
    · simp only [if_pos h4]
      by_cases h6 : (24576 : Int32) ≤ a
      · simp only [if_pos h6]; unfold RB CN; simp [mst, upd, e, h2, h3, h7, hc1, i0, b1, ho, hin]
      · simp only [if_neg h6]; unfold RB CN; simp [mst, upd, e, h2, h3, h7, hc1, i0, hm, ho, hin]
    · simp only [if_neg h4]
      by_cases hz : (v &&& (31 : Int32)) = 0
      · simp only [if_pos hz]; unfold RB CN; simp [mst, upd, e, h2, h3, h7, hc1, i0, hm, ho, hin]
      · simp only [if_neg hz]; unfold RB CN; simp [mst, upd, e, h2, h3, h7, hc1, i0, hm, ho, hin]
  · simp only [if_neg h8]
    by_cases hz : (v &&& (15 : Int32)) = (10 : Int32)
    · simp only [if_pos hz]; unfold RB CN; simp [mst, upd, e, h2, h3, hc1, i0, hm, isB_1, hin]
    · simp only [if_neg hz]; unfold RB CN; simp [mst, upd, e, h2, h3, hc1, i0, hm, isB_0, hin]
theorem RB.two {M N : Mem} (h : RB M N) (i0 : ¬ N 0 8 = 0) (e : N 0 10 = 2) (a v : Int32) : RB (f_K_controlTwo_m M a v) (f_R_controls_m N a v) := by
  have h0 := h
  obtain ⟨h2, h3, h7, hc, hk, hi, hm, ho, hin⟩ := h
  have hc1 := hc.2.2.1 e
  have k0 : ¬ N 0 10 = 0 := by rw [e]; decide
  unfold f_K_controlTwo_m f_R_controls_m f_K_controlTwo_j3_m f_K_controlTwo_j2_m f_K_controlTwo_j1_m f_R_controls_j6_m f_R_controls_j7_m f_R_controls_j5_m; dsimp only
  simp only [if_neg i0, if_neg k0, if_pos e]
  by_cases h4 : a < (16384 : Int32)
  · simp only [if_pos h4]
    by_cases h6 : (a &&& (256 : Int32)) = 0
    · simp only [if_pos h6]
      by_cases hz : (v &&& (15 : Int32)) = (10 : Int32)
      · simp only [if_pos hz]; unfold RB CN; simp [mst, upd, e, h2, h3, hc1, i0, hm, isB_1, hin]
      · simp only [if_neg hz]; unfold RB CN; simp [mst, upd, e, h2, h3, hc1, i0, hm, isB_0, hin]
    · simp only [if_neg h6]
      by_cases hz : (v &&& (15 : Int32)) = 0
      · simp only [if_pos hz]; rw [mod8_and (x := 1) (by decide)]; unfold RB CN; simp [mst, upd, e, h2, h3, h7, hc1, i0, hm, ho, hin]
      · simp only [if_neg hz]; rw [mod8_and (x := v &&& (15 : Int32)) (and_lt (by decide))]; unfold RB CN; simp [mst, upd, e, h2, h3, h7, hc1, i0, hm, ho, hin]
  · simp only [if_neg h4]; exact h0
theorem RB.three {M N : Mem} (h : RB M N) (i0 : ¬ N 0 8 = 0) (e : N 0 10 = 3) (a v : Int32) : RB (f_K_controlThree_m M a v) (f_R_controls_m N a v) := by
  have h0 := h
  obtain ⟨h2, h3, h7, hc, hk, hi, hm, ho, hin⟩ := h
  have hc1 := hc.2.2.2 e
  have k0 : ¬ N 0 10 = 0 := by rw [e]; decide
  have k1 : ¬ N 0 10 = 1 := by rw [e]; decide
  have k2 : ¬ N 0 10 = 2 := by rw [e]; decide
  unfold f_K_controlThree_m f_R_controls_m f_K_controlThree_j2_m f_K_controlThree_j1_m f_R_controls_j4_m f_R_controls_j2_m; dsimp only
  simp only [if_neg i0, if_neg k0, if_neg k1, if_neg k2]
  by_cases h8 : (8192 : Int32) ≤ a
  · simp only [if_pos h8]
    by_cases h9 : (12288 : Int32) ≤ a
    · simp only [if_pos h9]
      by_cases h4 : (16384 : Int32) ≤ a
      · simp only [if_pos h4]
        by_cases h6 : (24576 : Int32) ≤ a
        · simp only [if_pos h6]; exact h0
        · simp only [if_neg h6]; unfold RB CN; simp [mst, upd, e, h2, h3, h7, hc1, i0, hm, ho, hin]
      · simp only [if_neg h4]; unfold RB CN; simp [mst, upd, e, h2, h3, h7, hc1, i0, hm, ho, hin]
    · simp only [if_neg h9]; unfold RB CN; simp [mst, upd, e, h2, h3, h7, hc1, i0, hm, ho, hin]
  · simp only [if_neg h8]
    by_cases hz : (v &&& (15 : Int32)) = (10 : Int32)
    · simp only [if_pos hz]; unfold RB CN; simp [mst, upd, e, h2, h3, hc1, i0, hm, isB_1, hin]
    · simp only [if_neg hz]; unfold RB CN; simp [mst, upd, e, h2, h3, hc1, i0, hm, isB_0, hin]
theorem ctl {M N : Mem} (h : RC M N) {d : Int32} {ρ : Nat → Int32} (sN : SR d ρ N) {a v : Int32} (hv : oct v) : RC (f_K_control_m M a v) (f_R_controls_m N a v) := by
  have sN' := (so_R_controls N a v sN hv).2
  have hb := h.b
  have h2 := h.1
  have h3 := h.2.1
  have hk := hb.2.2.2.2.1
  unfold f_K_control_m f_K_control_j1_m; dsimp only
  rw [h2, h3]
  by_cases i0 : N 0 8 = 0
  · rw [if_pos i0]
    have e : f_R_controls_m N a v = N := by unfold f_R_controls_m f_R_controls_j1_m; rw [if_pos i0]
    rw [e]; exact h
  rw [if_neg i0]
  rcases kind4 hk with e | e | e | e
  · have e9 : f_R_controls_m N a v = N := by unfold f_R_controls_m f_R_controls_j1_m; rw [if_neg i0, if_pos e]
    rw [if_neg (by rw [e]; decide), if_neg (by rw [e]; decide), if_neg (by rw [e]; decide), e9]; exact hb.settle sN
  · rw [if_pos e]; exact (hb.one i0 e a v).settle sN'
  · rw [if_neg (by rw [e]; decide), if_pos e]; exact (hb.two i0 e a v).settle sN'
  · rw [if_neg (by rw [e]; decide), if_neg (by rw [e]; decide), if_pos e]; exact (hb.three i0 e a v).settle sN'
theorem ctl_c (M : Mem) (a v : Int32) {c : Nat} (hc : ¬ c = 1) : f_K_control_m M a v c = M c := by
  have h1 : f_K_controlOne_m M a v c = M c := by
    unfold f_K_controlOne_m f_K_controlOne_j3_m f_K_controlOne_j2_m f_K_controlOne_j1_m; dsimp only
    repeat' split
    all_goals rw [mst_no hc]
  have h2 : f_K_controlTwo_m M a v c = M c := by
    unfold f_K_controlTwo_m f_K_controlTwo_j3_m f_K_controlTwo_j2_m f_K_controlTwo_j1_m; dsimp only
    repeat' split
    all_goals first | rw [mst_no hc] | rfl
  have h3 : f_K_controlThree_m M a v c = M c := by
    unfold f_K_controlThree_m f_K_controlThree_j2_m f_K_controlThree_j1_m; dsimp only
    repeat' split
    all_goals first | rw [mst_no hc] | rfl
  unfold f_K_control_m f_K_control_j1_m; dsimp only
  repeat' split
  all_goals first | rfl | rw [settle_c _ hc, h1] | rw [settle_c _ hc, h2] | rw [settle_c _ hc, h3] | rw [settle_c _ hc]
theorem ctl_n (N : Mem) (a v : Int32) {c j : Nat} (hc : ¬ c = 0 ∨ 17 ≤ j) : f_R_controls_m N a v c j = N c j := by
  have key : ∀ (k : Nat) (x : Int32), k ≤ 16 → mst N 0 k x c j = N c j := by
    intro k x hk
    rcases hc with hc | hc
    · rw [mst_no hc]
    · rw [mst_ne (by omega)]
  unfold f_R_controls_m f_R_controls_j1_m f_R_controls_j3_m f_R_controls_j4_m f_R_controls_j6_m f_R_controls_j7_m f_R_controls_j5_m f_R_controls_j2_m; dsimp only
  repeat' split
  all_goals first | rfl | exact key _ _ (by decide)
