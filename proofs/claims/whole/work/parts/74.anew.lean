set_option maxRecDepth 100000 in
theorem anew_z {d : Int32} {ρ : Nat → Int32} {M N : Mem} (hA : RA M N) (h13 : M 13 = N 7) (h17 : M 17 = N 8) (h22 : M 2 2 = N 0 25) (h8 : M 1 2 = N 0 8) (h10 : M 1 3 = N 0 10) (hb : isB (N 0 8)) (hk : 0 ≤ (N 0 10).toInt ∧ (N 0 10).toInt < 4) (h0 : N 0 8 = 0 → N 0 10 = 0) (h127 : N 6 127 = 0) (sN : SR d ρ N) (hd : oct d) : RZ d ρ (f_T_startAnew_m M) (f_R_reset_m N) := by
  have r8 := r0_8 N
  have r10 := r0_10 N
  have r25 := r0_25 N
  have te := t_eq M
  have Ac : ∀ c : Nat, ¬ c = 5 ∧ ¬ c = 17 → f_T_startAnew_m M c = f_S_reset_m (f_Y_reset_m (f_P_reset_m (f_K_reset_m M))) c := fun c h => by rw [te, q_c _ h]
  have kc : ∀ c : Nat, ¬ c = 1 → f_K_reset_m M c = M c := fun c h => by rw [k_eq]; simp only [mst_no h]
  have a1 : f_T_startAnew_m M 1 = f_K_reset_m M 1 := by rw [Ac 1 (by decide), s_c _ (by decide), y_c _ (by decide), p_c _ (by decide)]
  have a28 : ∀ c : Nat, c = 2 ∨ c = 8 → f_T_startAnew_m M c = f_P_findState_m (pR (f_K_reset_m M)) c := fun c h => by
    rw [Ac c (by omega), s_c _ (by omega), y_c _ (by omega), p_eq]
  refine ⟨⟨⟨?_, ?_, ?_⟩, ⟨?_, ?_, ?_⟩, (so_R_reset N sN).2, ?_, ?_, hd⟩, ⟨?_, ?_, ?_, ?_, ?_⟩, ?_, ?_⟩
  · obtain ⟨e1, e2, e3, e4, e5, e6⟩ := hA
    refine ⟨?_, ?_, ?_, ?_, ?_, ?_⟩
    · rw [Ac 6 (by decide), s_c _ (by decide), y_c _ (by decide), p_c _ (by decide), kc 6 (by decide), r_c N (by decide), z_c N (by decide)]; exact e1
    · rw [Ac 7 (by decide), s_c _ (by decide), y_c _ (by decide), p_c _ (by decide), kc 7 (by decide), r_c N (by decide), z_c N (by decide)]; exact e2
    · rw [Ac 9 (by decide), s_c _ (by decide), r_c N (by decide)]; funext j
      rw [(y_k _ j).1, (z_k N j).1, p_c _ (by decide), kc 9 (by decide), e3]
    · rw [Ac 11 (by decide), s_c _ (by decide), r_c N (by decide)]; funext j
      rw [(y_k _ j).2.2.1, (z_k N j).2.1, p_c _ (by decide), kc 11 (by decide), e4]
    · rw [Ac 10 (by decide), s_c _ (by decide), r_c N (by decide)]; funext j
      rw [(y_k _ j).2.1, (z_k N j).2.2.1, p_c _ (by decide), kc 10 (by decide), e5]
    · rw [Ac 12 (by decide), s_c _ (by decide), r_c N (by decide)]; funext j
      rw [(y_k _ j).2.2.2, (z_k N j).2.2.2.1, p_c _ (by decide), kc 12 (by decide), e6]
      by_cases hj : j = 127
      · subst hj; rw [if_pos (by decide), if_neg (by decide)]; exact h127.symm
      · by_cases h2 : j < 127
        · rw [if_pos (by omega), if_pos h2]
        · rw [if_neg (by omega), if_neg h2]
  · have c4 : f_K_reset_m M 1 4 = (if M 1 2 = 0 then 0 else if M 1 3 = 0 then 1 else 0) := by rw [k_eq]; simp (decide := true) only [mst_eq, mst_ne, ne_eq, not_false_eq_true]
    have c5 : f_K_reset_m M 1 5 = 1 := by rw [k_eq]; simp (decide := true) only [mst_eq, mst_ne, ne_eq, not_false_eq_true]
    have c6 : f_K_reset_m M 1 6 = 0 := by rw [k_eq]; simp (decide := true) only [mst_eq, mst_ne, ne_eq, not_false_eq_true]
    have c2 : f_K_reset_m M 1 2 = M 1 2 := by rw [k_eq]; simp (decide := true) only [mst_eq, mst_ne, ne_eq, not_false_eq_true]
    have c3 : f_K_reset_m M 1 3 = M 1 3 := by rw [k_eq]; simp (decide := true) only [mst_eq, mst_ne, ne_eq, not_false_eq_true]
    have c7 : f_K_reset_m M 1 7 = 0 := by rw [k_eq]; simp (decide := true) only [mst_eq, mst_ne, ne_eq, not_false_eq_true]
    have c8 : f_K_reset_m M 1 8 = 1 := by rw [k_eq]; simp (decide := true) only [mst_eq, mst_ne, ne_eq, not_false_eq_true]
    have c9 : f_K_reset_m M 1 9 = 0 := by rw [k_eq]; simp (decide := true) only [mst_eq, mst_ne, ne_eq, not_false_eq_true]
    have c10 : f_K_reset_m M 1 10 = 0 := by rw [k_eq]; simp (decide := true) only [mst_eq, mst_ne, ne_eq, not_false_eq_true]
    have n9 := r0_9 N
    have n11 := r0_11 N
    have n12 := r0_12 N
    have n13 := r0_13 N
    have n14 := r0_14 N
    have n15 := r0_15 N
    have n16 := r0_16 N
    unfold RC CN f_R_hasRam_v f_R_bankHigh_v f_R_bankRam_v f_R_hasRam_j2_v f_R_hasRam_j3_v f_R_hasRam_j1_v f_R_bankHigh_j2_v f_R_bankHigh_j1_v f_R_bankRam_j1_v
    rw [a1, c2, c3, c4, c5, c6, c7, c8, c9, c10, n9, n11, n12, n13, n14, n15, n16, r8, r10, h8, h10]
    refine ⟨rfl, rfl, ?_, ?_, ?_, rfl, ⟨fun _ => ⟨rfl, rfl⟩, fun _ => ⟨rfl, rfl, rfl⟩, fun _ => ⟨by decide, rfl⟩, fun _ => ⟨rfl, rfl⟩⟩, hk, h0, Or.inl rfl, Or.inl rfl, hb⟩
    · split
      · rfl
      · split <;> simp only [if_true]
    · repeat' split
      all_goals first | rfl | decide
    · repeat' split
      all_goals first | rfl | decide
  · have hb2 : RPb (pR (f_K_reset_m M)) (f_R_reset_m N) := by
      have k22 : pR (f_K_reset_m M) 2 2 = f_R_reset_m N 0 25 := by rw [(pR_2 _).2.1, kc 2 (by decide), r25]; exact h22
      have z2 := pR_2 (f_K_reset_m M)
      have z8 : ∀ j : Nat, j < 256 → pR (f_K_reset_m M) 8 j = if j = 15 then 1 else if j = 71 then 252 else if j = 64 then 145 else 0 := fun j hj => pR_8 _ hj
      intro q hq
      unfold pt at hq
      simp only [List.mem_cons, List.not_mem_nil, or_false] at hq
      rcases hq with rfl | rfl | rfl | rfl | rfl | rfl | rfl | rfl | rfl | rfl | rfl | rfl | rfl | rfl | rfl | rfl | rfl | rfl | rfl | rfl | rfl | rfl | rfl
      · show pR (f_K_reset_m M) 8 0 = f_R_reset_m N 0 26
        rw [z8 0 (by decide), r0_26 N]; (try decide)
      · show pR (f_K_reset_m M) 8 5 = f_R_reset_m N 0 28
        rw [z8 5 (by decide), r0_28 N]; (try decide)
      · show pR (f_K_reset_m M) 8 6 = f_R_reset_m N 0 29
        rw [z8 6 (by decide), r0_29 N]; (try decide)
      · show pR (f_K_reset_m M) 8 7 = f_R_reset_m N 0 30
        rw [z8 7 (by decide), r0_30 N]; (try decide)
      · show pR (f_K_reset_m M) 8 15 = f_R_reset_m N 0 31
        rw [z8 15 (by decide), r0_31 N]; (try decide)
      · show pR (f_K_reset_m M) 8 255 = f_R_reset_m N 0 32
        rw [z8 255 (by decide), r0_32 N]; (try decide)
      · show pR (f_K_reset_m M) 8 64 = f_R_reset_m N 0 33
        rw [z8 64 (by decide), r0_33 N]; (try decide)
      · show pR (f_K_reset_m M) 8 65 = f_R_reset_m N 0 34
        rw [z8 65 (by decide), r0_34 N]; (try decide)
      · show pR (f_K_reset_m M) 8 66 = f_R_reset_m N 0 35
        rw [z8 66 (by decide), r0_35 N]; (try decide)
      · show pR (f_K_reset_m M) 8 67 = f_R_reset_m N 0 36
        rw [z8 67 (by decide), r0_36 N]; (try decide)
      · show pR (f_K_reset_m M) 8 69 = f_R_reset_m N 0 38
        rw [z8 69 (by decide), r0_38 N]; (try decide)
      · show pR (f_K_reset_m M) 8 70 = f_R_reset_m N 0 39
        rw [z8 70 (by decide), r0_39 N]; (try decide)
      · show pR (f_K_reset_m M) 8 71 = f_R_reset_m N 0 40
        rw [z8 71 (by decide), r0_40 N]; (try decide)
      · show pR (f_K_reset_m M) 8 72 = f_R_reset_m N 0 41
        rw [z8 72 (by decide), r0_41 N]; (try decide)
      · show pR (f_K_reset_m M) 8 73 = f_R_reset_m N 0 42
        rw [z8 73 (by decide), r0_42 N]; (try decide)
      · show pR (f_K_reset_m M) 8 74 = f_R_reset_m N 0 43
        rw [z8 74 (by decide), r0_43 N]; (try decide)
      · show pR (f_K_reset_m M) 8 75 = f_R_reset_m N 0 44
        rw [z8 75 (by decide), r0_44 N]; (try decide)
      · show pR (f_K_reset_m M) 2 1 = f_R_reset_m N 0 50
        rw [z2.1, r0_50 N]
      · show pR (f_K_reset_m M) 2 2 = f_R_reset_m N 0 25
        exact k22
      · show pR (f_K_reset_m M) 2 3 = f_R_reset_m N 0 27
        rw [z2.2.2.1, r0_27 N]
      · show pR (f_K_reset_m M) 2 4 = f_R_reset_m N 0 45
        rw [z2.2.2.2.1, r0_45 N]
      · show pR (f_K_reset_m M) 2 5 = f_R_reset_m N 0 37
        rw [z2.2.2.2.2.1, r0_37 N]
      · show pR (f_K_reset_m M) 2 7 = f_R_reset_m N 0 46
        rw [z2.2.2.2.2.2, r0_46 N]
    have hr := hb2.find
    have es : stR (f_R_reset_m N) = f_R_reset_m N := by
      unfold stR; rw [r0_33 N, if_neg (by decide)]
    rw [es] at hr
    exact hr.c (a28 8 (Or.inr rfl)) (a28 2 (Or.inl rfl)) (fun _ _ => rfl)
  · funext j
    by_cases hj : 8 ≤ j
    · rw [te, qr_17 _ hj, s_c _ (by decide), y_c _ (by decide), p_c _ (by decide), kc 17 (by decide), r_8 N hj, z_c N (by decide), h17]
    · have h9 : j = 0 ∨ j = 1 ∨ j = 2 ∨ j = 3 ∨ j = 4 ∨ j = 5 ∨ j = 6 ∨ j = 7 := by omega
      rw [te]
      rcases h9 with rfl | rfl | rfl | rfl | rfl | rfl | rfl | rfl
      · rw [q17_0, r8_0]
      · rw [q17_1, r8_1]
      · rw [q17_2, r8_2]
      · rw [q17_3, r8_3]
      · rw [q17_4, r8_4]
      · rw [q17_5, r8_5]
      · rw [q17_6, r8_6]
      · rw [q17_7, r8_7]
  · rw [te, q5_7, r0_18]
  · rw [te, q5_8, r0_19]
  · unfold FZ; rw [r8_6]; decide
  · show DR _; unfold DR; rw [r0_45 N]; decide
  · rw [Ac 13 (by decide), r_c N (by decide)]; funext j
    rw [s_13, (z_k N j).2.2.2.2, y_c _ (by decide), p_c _ (by decide), kc 13 (by decide), h13]
  · rw [te, q5_0, r0_47]
  · rw [te, q5_2, r0_49]
  · rw [te, q5_4, r0_22]
  · rw [te, q5_5, r0_23]
  · rw [r0_23]; exact Or.inl rfl
  · intro _; unfold IM; rw [te, q5_3, q5_9, r0_21, r0_24]; exact ⟨Or.inl rfl, Or.inl rfl, rfl, rfl⟩
