/-! Shifts, the decimal adjustment, sixteen bits. -/
theorem o7_d : ∀ j : Fin 256, (nI j.val >>> ((7 : Int32) &&& (31 : Int32))) = 0 ∨ (nI j.val >>> ((7 : Int32) &&& (31 : Int32))) = 1 := by decide +kernel
theorem s1_d : ∀ j : Fin 256, (((nI j.val >>> ((1 : Int32) &&& (31 : Int32))) ||| ((nI j.val &&& (1 : Int32)) <<< ((7 : Int32) &&& (31 : Int32)))) &&& (255 : Int32)) = (((nI j.val >>> ((1 : Int32) &&& (31 : Int32))) ||| (nI j.val <<< ((7 : Int32) &&& (31 : Int32)))) &&& (255 : Int32)) := by decide +kernel
/-- the end of a shift on both sides -/
theorem sh_e {d : Int32} {ρ : Nat → Int32} {M N : Mem} (h : RX d ρ M N) {t o o' : Int32} (ho : o = 0 ∧ ¬ o' = 1 ∨ ¬ o = 0 ∧ o' = 1) : SI d ρ M N (f_Q_shifted_j4_m M o t) (f_R_turned_j2_m N t o') ∧ f_Q_shifted_j4_v M o t = t &&& (255 : Int32) ∧ f_R_turned_j2_v N t o' = t &&& (255 : Int32) := by
  unfold f_Q_shifted_j4_m f_R_turned_j2_m f_Q_shifted_j4_v f_R_turned_j2_v f_Q_shifted_j5_m f_Q_shifted_j5_v f_R_turned_j3_m f_R_turned_j3_v f_R_turned_j4_m f_R_turned_j4_v f_Q_zero_v f_Q_zero_j1_v; dsimp only
  simp only [fl_eq]
  rcases ho with ⟨h1, h2⟩ | ⟨h1, h2⟩ <;> by_cases h3 : (t &&& (255 : Int32)) = 0 <;> simp (decide := true) only [h1, h2, h3, if_true, if_false]
  all_goals exact ⟨p_r2 h (by decide) (by decide) (fun _ => by decide), trivial⟩
theorem shift_s {d : Int32} {ρ : Nat → Int32} {M N : Mem} (h : RX d ρ M N) {y v : Int32} (hy : 0 ≤ y.toInt ∧ y.toInt < 8) (hv : oct v) : SI d ρ M N (f_Q_shifted_m M y v) (f_R_turned_m N y v) ∧ f_Q_shifted_v M y v = f_R_turned_v N y v ∧ oct (f_R_turned_v N y v) := by
  obtain ⟨i, hi, ev⟩ := of_nI (n := 256) hv (by decide)
  have k7 := o7_d ⟨i, hi⟩
  have k1 := s1_d ⟨i, hi⟩
  rw [show nI ((⟨i, hi⟩ : Fin 256) : Nat) = v from ev.symm] at k7 k1
  have e7 : (v >>> ((7 : Int32) &&& (31 : Int32))) = 0 ∧ ¬ (v >>> ((7 : Int32) &&& (31 : Int32))) = 1 ∨ ¬ (v >>> ((7 : Int32) &&& (31 : Int32))) = 0 ∧ (v >>> ((7 : Int32) &&& (31 : Int32))) = 1 := by
    rcases k7 with e | e <;> rw [e] <;> decide
  have e1 : (v &&& (1 : Int32)) = 0 ∧ ¬ (v &&& (1 : Int32)) = 1 ∨ ¬ (v &&& (1 : Int32)) = 0 ∧ (v &&& (1 : Int32)) = 1 := by
    rcases b1 v with e | e <;> rw [e] <;> decide
  have oo : oct (f_R_turned_v N y v) := (so_R_turned N y v h.2.2.1).2.2
  have key : ∀ (t t' o o' : Int32), (t &&& (255 : Int32)) = (t' &&& (255 : Int32)) → (o = 0 ∧ ¬ o' = 1 ∨ ¬ o = 0 ∧ o' = 1) → SI d ρ M N (f_Q_shifted_j4_m M o t) (f_R_turned_j2_m N t' o') ∧ f_Q_shifted_j4_v M o t = f_R_turned_j2_v N t' o' := by
    intro t t' o o' et ho
    have a := sh_e h (t := t) ho
    have b : f_R_turned_j2_m N t' o' = f_R_turned_j2_m N t o' ∧ f_R_turned_j2_v N t' o' = f_R_turned_j2_v N t o' := by
      unfold f_R_turned_j2_m f_R_turned_j2_v; dsimp only; rw [et]; exact ⟨rfl, rfl⟩
    rw [b.1, b.2]; exact ⟨a.1, a.2.1.trans a.2.2.symm⟩
  have main : SI d ρ M N (f_Q_shifted_m M y v) (f_R_turned_m N y v) ∧ f_Q_shifted_v M y v = f_R_turned_v N y v := by
    unfold f_Q_shifted_m f_Q_shifted_v f_R_turned_m f_R_turned_v; dsimp only
    rw [(h.r 6).1, is_eq N (by decide)]
    by_cases hC : (N 8 6 &&& (16 : Int32)) = 0
    · simp (decide := true) only [hC, if_true, if_false]
      rcases eight hy with e | e | e | e | e | e | e | e <;> subst e <;> unfold f_Q_shifted_j1_m f_Q_shifted_j1_v f_Q_shifted_j6_m f_Q_shifted_j6_v f_Q_shifted_j2_m f_Q_shifted_j2_v f_Q_shifted_j3_m f_Q_shifted_j3_v f_R_turned_j1_m f_R_turned_j1_v <;> simp (decide := true) only [if_true, if_false]
      · exact key _ _ _ _ rfl e7
      · exact key _ _ _ _ k1 e1
      · exact key _ _ _ _ rfl e7
      · exact key _ _ _ _ rfl e1
      · exact key _ _ _ _ rfl e7
      · exact key _ _ _ _ rfl e1
      · exact key _ _ _ _ (by rw [Int32.or_comm]) (by decide)
      · exact key _ _ _ _ rfl e1
    · simp (decide := true) only [hC, if_true, if_false]
      rcases eight hy with e | e | e | e | e | e | e | e <;> subst e <;> unfold f_Q_shifted_j1_m f_Q_shifted_j1_v f_Q_shifted_j6_m f_Q_shifted_j6_v f_Q_shifted_j2_m f_Q_shifted_j2_v f_Q_shifted_j3_m f_Q_shifted_j3_v f_R_turned_j1_m f_R_turned_j1_v <;> simp (decide := true) only [if_true, if_false]
      · exact key _ _ _ _ rfl e7
      · exact key _ _ _ _ k1 e1
      · exact key _ _ _ _ rfl e7
      · exact key _ _ _ _ rfl e1
      · exact key _ _ _ _ rfl e7
      · exact key _ _ _ _ rfl e1
      · exact key _ _ _ _ (by rw [Int32.or_comm]) (by decide)
      · exact key _ _ _ _ rfl e1
  exact ⟨main.1, main.2, oo⟩
/-- the end of the decimal adjustment -/
theorem daa_e {d : Int32} {ρ : Nat → Int32} {M N : Mem} (h : RX d ρ M N) {t c c' : Int32} (hc : c = 0 ∧ c' = 0 ∨ ¬ c = 0 ∧ ¬ c' = 0) {x : Int32} (hx : ((N 8 7 + x) &&& (255 : Int32)) = (t &&& (255 : Int32))) : SI d ρ M N (f_Q_adjustDecimal_j3_m M (N 8 7) (N 8 6) c x) (f_R_adjusts_j1_m N t c') := by
  have a := p_r h (k := 7) (v := t &&& (255 : Int32)) (and_lt (by decide)) (fun e => absurd e (by decide))
  unfold f_Q_adjustDecimal_j3_m f_Q_adjustDecimal_j4_m f_R_adjusts_j1_m f_R_adjusts_j2_m f_Q_zero_v f_Q_zero_j1_v; dsimp only
  rw [hx, mst_eq, mst_eq]
  rw [is_eq (mst N 8 7 (t &&& (255 : Int32))) (k := 64) (by decide), mst_ne (c := 8) (k := 7) (i := 6) (by decide)]
  simp only [fl_eq]
  have h64 : (N 8 6 &&& (64 : Int32)) = 0 ∨ (N 8 6 &&& (64 : Int32)) = 64 := by
    obtain ⟨j, hj, e⟩ := h.f
    have q : ∀ j : Fin 16, (nI (16 * j.val) &&& (64 : Int32)) = 0 ∨ (nI (16 * j.val) &&& (64 : Int32)) = 64 := by decide +kernel
    rw [e]; exact q ⟨j, hj⟩
  rcases hc with ⟨c1, c2⟩ | ⟨c1, c2⟩ <;> rcases h64 with e | e <;> by_cases h1 : (t &&& (255 : Int32)) = 0 <;> simp (decide := true) only [c1, c2, e, h1, if_true, if_false]
  all_goals first | exact a.tr (p_r2 a.1 (by decide) (by decide) (fun _ => by decide)) | (rw [h1] at a; exact a.tr (p_r2 a.1 (by decide) (by decide) (fun _ => by decide)))
theorem daa_s {d : Int32} {ρ : Nat → Int32} {M N : Mem} (h : RX d ρ M N) : SI d ρ M N (f_Q_adjustDecimal_m M) (f_R_adjusts_m N) := by
  unfold f_Q_adjustDecimal_m f_R_adjusts_m f_Q_adjustDecimal_j1_m f_Q_adjustDecimal_j2_m f_Q_adjustDecimal_j5_m f_Q_adjustDecimal_j9_m f_Q_adjustDecimal_j10_m f_Q_adjustDecimal_j11_m f_Q_adjustDecimal_j5_m f_Q_adjustDecimal_j6_m f_Q_adjustDecimal_j8_m f_Q_adjustDecimal_j7_m f_R_adjusts_j3_m f_R_adjusts_j4_m f_R_adjusts_j5_m f_R_adjusts_j6_m f_R_adjusts_j3_m f_R_adjusts_j4_m; dsimp only
  rw [(h.r 6).1, (h.r 7).1, is_eq N (k := 16) (by decide), is_eq N (k := 64) (by decide), is_eq N (k := 32) (by decide)]
  by_cases hC : (N 8 6 &&& (16 : Int32)) = 0 <;> by_cases hH : (N 8 6 &&& (32 : Int32)) = 0 <;> by_cases hN : (N 8 6 &&& (64 : Int32)) = 0 <;> by_cases h9 : N 8 7 ≤ (153 : Int32) <;> by_cases hl : (N 8 7 &&& (15 : Int32)) ≤ (9 : Int32) <;> simp (decide := true) only [hC, hH, hN, h9, hl, if_true, if_false]
  all_goals exact daa_e h (by decide) (by first | rw [Int32.add_assoc] | (rw [Int32.add_assoc]; rfl) | rfl | (rw [show ((0 : Int32) + 0) = 0 from by decide, Int32.add_zero]) | (rw [show ((0 : Int32) + 6) = 6 from by decide]) | (rw [show ((0 : Int32) + (-6)) = -6 from by decide]) | (rw [show ((96 : Int32) + 0) = 96 from by decide]) | (rw [show ((-96 : Int32) + 0) = -96 from by decide]))
theorem chA_d : ∀ j : Fin 16, fg 32 1 (fg 64 1 (nI (16 * j.val))) = (nI (16 * j.val) ||| (64 : Int32)) ||| (32 : Int32) ∧ oct ((nI (16 * j.val) ||| (64 : Int32)) ||| (32 : Int32)) ∧ (((nI (16 * j.val) ||| (64 : Int32)) ||| (32 : Int32)) &&& (15 : Int32)) = 0 ∧ fg 32 0 (fg 64 0 (fg 16 1 (nI (16 * j.val)))) = (nI (16 * j.val) &&& (128 : Int32)) ||| (16 : Int32) ∧ oct ((nI (16 * j.val) &&& (128 : Int32)) ||| (16 : Int32)) ∧ (((nI (16 * j.val) &&& (128 : Int32)) ||| (16 : Int32)) &&& (15 : Int32)) = 0 ∧ fg 32 0 (fg 64 0 (fg 16 (if (nI (16 * j.val) &&& (16 : Int32)) = 0 then 1 else 0) (nI (16 * j.val)))) = (nI (16 * j.val) &&& (144 : Int32)) ^^^ (16 : Int32) ∧ oct ((nI (16 * j.val) &&& (144 : Int32)) ^^^ (16 : Int32)) ∧ (((nI (16 * j.val) &&& (144 : Int32)) ^^^ (16 : Int32)) &&& (15 : Int32)) = 0 ∧ fg 128 0 (nI (16 * j.val)) = (nI (16 * j.val) &&& (127 : Int32)) := by decide +kernel
theorem rot_d : ∀ (z c : Bool), fg 128 0 ((((if z then (128 : Int32) else 0) ||| (0 : Int32)) ||| (0 : Int32)) ||| (if c then (16 : Int32) else 0)) = (((if z then (128 : Int32) else 0) ||| (if c then (16 : Int32) else 0)) &&& (16 : Int32)) := by decide
theorem chA_s {d : Int32} {ρ : Nat → Int32} {M N : Mem} (h : RX d ρ M N) {y : Int32} (hy : 0 ≤ y.toInt ∧ y.toInt < 8) : SI d ρ M N (f_Q_changeA_m M y) (f_R_accumulator_m N y) := by
  obtain ⟨j, hj, e⟩ := h.f
  have q := chA_d ⟨j, hj⟩
  rw [show nI (16 * ((⟨j, hj⟩ : Fin 16) : Nat)) = N 8 6 from e.symm] at q
  obtain ⟨q1, q2, q3, q4, q5, q6, q7, q8, q9, -⟩ := q
  have rot : ∀ k : Int32, (0 ≤ k.toInt ∧ k.toInt < 8) → SI d ρ M N (mst (mst (f_Q_shifted_m M k (M 17 7)) 17 7 (f_Q_shifted_v M k (M 17 7))) 17 6 ((mst (f_Q_shifted_m M k (M 17 7)) 17 7 (f_Q_shifted_v M k (M 17 7))) 17 6 &&& (16 : Int32))) (f_R_flag_m (mst (f_R_turned_m N k (N 8 7)) 8 7 (f_R_turned_v N k (N 8 7))) (128 : Int32) (0 : Int32)) := by
    intro k hk
    rw [(h.r 7).1]
    obtain ⟨s1, v1, o1⟩ := shift_s h hk (h.r 7).2
    have a := s1.tr (p_r s1.1 (k := 7) o1 (fun x => absurd x (by decide)))
    rw [v1, flag_eq]
    obtain ⟨i, hi, ei⟩ := a.1.f
    have qq : ∀ i : Fin 16, fg 128 0 (nI (16 * i.val)) = (nI (16 * i.val) &&& (112 : Int32)) := by decide +kernel
    have f0 : ∃ b z : Bool, f_R_turned_m N k (N 8 7) 8 6 = ((((if z then (128 : Int32) else 0) ||| (0 : Int32)) ||| (0 : Int32)) ||| (if b then (16 : Int32) else 0)) := by
      unfold f_R_turned_m
      have j2 : ∀ (t o : Int32), ∃ b z : Bool, f_R_turned_j2_m N t o 8 6 = ((((if z then (128 : Int32) else 0) ||| (0 : Int32)) ||| (0 : Int32)) ||| (if b then (16 : Int32) else 0)) := by
        intro t o
        unfold f_R_turned_j2_m f_R_turned_j3_m f_R_turned_j4_m; dsimp only
        simp only [fl_eq]
        by_cases h1 : o = 1 <;> by_cases h2 : (t &&& (255 : Int32)) = 0 <;> simp (decide := true) only [h1, h2, if_true, if_false, mst_eq]
        all_goals first | exact ⟨true, true, rfl⟩ | exact ⟨true, false, rfl⟩ | exact ⟨false, true, rfl⟩ | exact ⟨false, false, rfl⟩
      have j1 : ∀ c : Int32, ∃ b z : Bool, f_R_turned_j1_m N k (N 8 7) c 8 6 = ((((if z then (128 : Int32) else 0) ||| (0 : Int32)) ||| (0 : Int32)) ||| (if b then (16 : Int32) else 0)) := by
        intro c; unfold f_R_turned_j1_m; dsimp only
        repeat' split
        all_goals exact j2 _ _
      split
      · exact j1 _
      · exact j1 _
    obtain ⟨b, z, ef⟩ := f0
    have em : (mst (f_R_turned_m N k (N 8 7)) 8 7 (f_R_turned_v N k (N 8 7))) 8 6 = f_R_turned_m N k (N 8 7) 8 6 := mst_ne (by decide)
    have ec : (mst (f_Q_shifted_m M k (N 8 7)) 17 7 (f_R_turned_v N k (N 8 7))) 17 6 = f_R_turned_m N k (N 8 7) 8 6 := by rw [(a.1.r 6).1, em]
    rw [em, ec, ef]
    have rd : ∀ (z b : Bool), ((((((if z then (128 : Int32) else 0) ||| (0 : Int32)) ||| (0 : Int32)) ||| (if b then (16 : Int32) else 0)) &&& (16 : Int32)) = fg 128 0 ((((if z then (128 : Int32) else 0) ||| (0 : Int32)) ||| (0 : Int32)) ||| (if b then (16 : Int32) else 0))) ∧ oct (((((if z then (128 : Int32) else 0) ||| (0 : Int32)) ||| (0 : Int32)) ||| (if b then (16 : Int32) else 0)) &&& (16 : Int32)) ∧ ((((((if z then (128 : Int32) else 0) ||| (0 : Int32)) ||| (0 : Int32)) ||| (if b then (16 : Int32) else 0)) &&& (16 : Int32)) &&& (15 : Int32)) = 0 := by decide
    exact a.tr (p_r2 a.1 (rd z b).1 (rd z b).2.1 (fun _ => (rd z b).2.2))
  unfold f_Q_changeA_m f_R_accumulator_m f_Q_changeA_j1_m f_R_accumulator_j1_m f_R_accumulator_j2_m f_R_accumulator_j3_m f_R_accumulator_j2_m f_R_accumulator_j1_m; dsimp only
  rcases eight hy with e | e | e | e | e | e | e | e <;> subst e <;> simp (decide := true) only [if_true, if_false, or_self]
  · exact rot 0 (by decide)
  · exact rot 1 (by decide)
  · exact rot 2 (by decide)
  · exact rot 3 (by decide)
  · exact daa_s h
  · have a := p_r h (k := 7) (v := N 8 7 ^^^ (255 : Int32)) (oct_xor (h.r 7).2 (by decide)) (fun x => absurd x (by decide))
    rw [(h.r 6).1, (h.r 7).1]; simp only [flag_eq, mst_eq, mst_mst, mst_ne (show ¬ 6 = 7 by decide)]; rw [q1]
    exact a.tr (p_r a.1 q2 (fun _ => q3))
  · rw [(h.r 6).1]; simp only [flag_eq, mst_eq, mst_mst]; rw [q4]
    exact p_r h q5 (fun _ => q6)
  · rw [(h.r 6).1, is_eq N (by decide)]
    by_cases hC : (N 8 6 &&& (16 : Int32)) = 0
    · simp (decide := true) only [hC, if_true, if_false] at q7 ⊢
      simp only [flag_eq, mst_eq, mst_mst]; rw [q7]; exact p_r h q8 (fun _ => q9)
    · simp (decide := true) only [hC, if_true, if_false] at q7 ⊢
      simp only [flag_eq, mst_eq, mst_mst]; rw [q7]; exact p_r h q8 (fun _ => q9)
