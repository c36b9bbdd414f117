/-! Which instruction it is. -/
theorem op_d : ∀ k : Fin 256, ((nI k.val >>> ((6 : Int32) &&& (31 : Int32))) = 0 ∨ (nI k.val >>> ((6 : Int32) &&& (31 : Int32))) = 1 ∨ (nI k.val >>> ((6 : Int32) &&& (31 : Int32))) = 2 ∨ (nI k.val >>> ((6 : Int32) &&& (31 : Int32))) = 3) ∧ (nI k.val = 118 ↔ ((nI k.val >>> ((6 : Int32) &&& (31 : Int32))) = 1 ∧ ((nI k.val >>> ((3 : Int32) &&& (31 : Int32))) &&& (7 : Int32)) = 6 ∧ (nI k.val &&& (7 : Int32)) = 6)) ∧ (nI k.val = 243 ↔ ((nI k.val >>> ((6 : Int32) &&& (31 : Int32))) = 3 ∧ ((nI k.val >>> ((3 : Int32) &&& (31 : Int32))) &&& (7 : Int32)) = 6 ∧ (nI k.val &&& (7 : Int32)) = 3)) ∧ (nI k.val = 203 ↔ ((nI k.val >>> ((6 : Int32) &&& (31 : Int32))) = 3 ∧ ((nI k.val >>> ((3 : Int32) &&& (31 : Int32))) &&& (7 : Int32)) = 1 ∧ (nI k.val &&& (7 : Int32)) = 3)) := by decide +kernel
theorem TB.nn {n : Nat} {M M' : Mem} (h : TB n M M') (h0 : M 5 10 = 0) (hn : n ≤ 100) : 0 ≤ (M' 5 10).toInt := by
  obtain ⟨k, hk, e⟩ := h
  rw [e, h0, Int32.zero_add, nI_toInt (by omega)]; omega
theorem hi4 {z : Int32} (hz : 0 ≤ z.toInt ∧ z.toInt < 8) : ((4 : Int32) ≤ z → z = 4 ∨ z = 5 ∨ z = 6 ∨ z = 7) ∧ (¬ (4 : Int32) ≤ z → 0 ≤ z.toInt ∧ z.toInt < 4) := by
  rcases eight hz with e | e | e | e | e | e | e | e <;> subst e <;> decide
theorem MID.oa {d : Int32} {ρ : Nat → Int32} {s i : Int32} {M N M' N' : Mem} (p : PF s M N) (o : OA d ρ M N M' N') (ht : 0 ≤ (M' 5 10).toInt) (hi : ¬ i = (243 : Int32)) : MID d ρ s i M' N' := by
  rcases o with o | ⟨M1, N1, o, rfl, rfl⟩ | ⟨M1, N1, o, rfl, rfl⟩
  · exact mid_plain o.1 (p.si o) ht hi
  · exact mid_lock o.1 (p.si o)
  · exact mid_reti o.1 (p.si o) (by rw [mst_ne (by decide)] at ht; exact ht) hi
theorem OA.c {d : Int32} {ρ : Nat → Int32} {M N M' N' : Mem} (o : OA d ρ M N M' N') : M' 5 0 = M 5 0 := by
  rcases o with o | ⟨M1, N1, o, rfl, rfl⟩ | ⟨M1, N1, o, rfl, rfl⟩
  · exact o.2.1 0 (by decide) (by decide) (by decide)
  · rw [mst_ne (by decide)]; exact o.2.1 0 (by decide) (by decide) (by decide)
  · rw [mst_ne (by decide)]; exact o.2.1 0 (by decide) (by decide) (by decide)
theorem SI.c {d : Int32} {ρ : Nat → Int32} {M N M' N' : Mem} (o : SI d ρ M N M' N') : M' 5 0 = M 5 0 := o.2.1 0 (by decide) (by decide) (by decide)
/-- the class's and the reference's instruction out of one state -/
theorem disp {d : Int32} {ρ : Nat → Int32} {s : Int32} {M N : Mem} (h : RX d ρ M N) (p : PF s M N) (h0 : M 5 10 = 0) {M73 : Mem} {x : Int32} (eM : M = mst (mst M73 5 3 x) 5 9 (0 : Int32)) {N58 : Mem} (eN : N = mst N58 0 24 (0 : Int32)) (es : N58 0 24 = s) (h22 : N58 0 22 = 0) : ∃ M' N', MID d ρ s (f_R_next_v N) M' N' ∧ f_Q_step_j4_m M73 x = f_Q_finish_m M' ∧ f_R_step_j1_m N58 = f_R_step_j2_m s (f_R_next_v N) N' ∧ f_R_step_j1_v N58 = f_R_step_j2_v s (f_R_next_v N) N' ∧ M' 5 0 = M 5 0 := by
  obtain ⟨s1, v1, o1⟩ := fetch_s h
  have p1 := p.si s1
  have t1 := tb_fetch M
  have c1 : (f_Q_fetch_m M) 5 0 = M 5 0 := s1.c
  unfold f_Q_step_j4_m f_R_step_j1_m f_R_step_j1_v f_Q_step_j2_m; dsimp only
  rw [if_pos h22, if_pos h22, es, ← eM, ← eN, v1]
  obtain ⟨k, hk, ek⟩ := of_nI (n := 256) o1 (by decide)
  have od := op_d ⟨k, hk⟩
  rw [show nI ((⟨k, hk⟩ : Fin 256) : Nat) = f_R_next_v N from ek.symm] at od
  clear ek hk k v1
  generalize f_R_next_v N = i at od o1 ⊢
  have hy : 0 ≤ ((i >>> ((3 : Int32) &&& (31 : Int32))) &&& (7 : Int32)).toInt ∧ ((i >>> ((3 : Int32) &&& (31 : Int32))) &&& (7 : Int32)).toInt < 8 := and_lt (by decide)
  have hz : 0 ≤ (i &&& (7 : Int32)).toInt ∧ (i &&& (7 : Int32)).toInt < 8 := and_lt (by decide)
  generalize (i >>> ((3 : Int32) &&& (31 : Int32))) &&& (7 : Int32) = y at hy od ⊢
  generalize i &&& (7 : Int32) = z at hz od ⊢
  generalize i >>> ((6 : Int32) &&& (31 : Int32)) = w at od ⊢
  generalize f_Q_fetch_m M = M1 at s1 p1 t1 c1 ⊢
  generalize f_R_next_m N = N1 at s1 p1 ⊢
  obtain ⟨hw, o118, o243, o203⟩ := od
  rcases hw with e | e | e | e <;> subst e <;> simp (decide := true) only [if_true, if_false]
  · have n243 : ¬ i = 243 := fun e => absurd (o243.mp e).1 (by decide)
    have l := low_s s1.1 hy hz
    exact ⟨_, _, mid_plain l.1 (p1.si l) ((t1.tr (tb_low _ _ _)).nn h0 (by decide)) n243, rfl, rfl, rfl, l.c.trans c1⟩
  · have n243 : ¬ i = 243 := fun e => absurd (o243.mp e).1 (by decide)
    by_cases e118 : i = 118
    · obtain ⟨-, ey, ez⟩ := o118.mp e118
      rw [if_pos e118, if_pos e118]
      unfold f_Q_doCopy_m f_Q_doCopy_j1_m; dsimp only
      rw [if_pos ey, if_pos ez]
      exact ⟨_, _, mid_halt s1.1 p1 (t1.nn h0 (by decide)) n243, rfl, rfl, rfl, by rw [mst_ne (by decide)]; exact c1⟩
    · rw [if_neg e118, if_neg e118]
      obtain ⟨s2, v2, o2⟩ := oct_s s1.1 hz
      have s3 := s2.tr (soct_s s2.1 hy o2)
      have ec : f_Q_doCopy_m M1 y z = f_Q_setOctet_m (f_Q_octetAt_m M1 z) y (f_R_operand_v N1 z) := by
        unfold f_Q_doCopy_m f_Q_doCopy_j2_m f_Q_doCopy_j1_m; dsimp only
        rw [v2]
        by_cases ey : y = 6
        · by_cases ez : z = 6
          · exact absurd (o118.mpr ⟨rfl, ey, ez⟩) e118
          · rw [if_pos ey, if_neg ez]
        · rw [if_neg ey]
      rw [ec]
      exact ⟨_, _, mid_plain s3.1 (p1.si s3) (((t1.tr (tb_oct _ _)).tr (tb_soct _ _ _)).nn h0 (by decide)) n243, rfl, rfl, rfl, s3.c.trans c1⟩
  · have n243 : ¬ i = 243 := fun e => absurd (o243.mp e).1 (by decide)
    have n118 : ¬ i = 118 := fun e => absurd (o118.mp e).1 (by decide)
    rw [if_neg n118, if_neg n118]
    obtain ⟨s2, v2, o2⟩ := oct_s s1.1 hz
    have s3 := s2.tr (comb_s s2.1 hy o2)
    rw [v2]
    exact ⟨_, _, mid_plain s3.1 (p1.si s3) (((t1.tr (tb_oct _ _)).tr (tb_comb _ _ _)).nn h0 (by decide)) n243, rfl, rfl, rfl, s3.c.trans c1⟩
  · have n118 : ¬ i = 118 := fun e => absurd (o118.mp e).1 (by decide)
    rw [if_neg n118, if_neg n118]
    by_cases e203 : i = 203
    · obtain ⟨-, ey, ez⟩ := o203.mp e203
      have n243 : ¬ i = 243 := by rw [e203]; decide
      rw [if_pos e203, ey, ez]
      have b := bits_s s1.1
      have et : f_R_third_m N1 (1 : Int32) (3 : Int32) = f_R_bits_m N1 := by
        unfold f_R_third_m f_R_third_j1_m; simp (decide := true) only [if_true, if_false]
      rw [et]
      exact ⟨_, _, mid_plain b.1 (p1.si b) ((t1.tr (tb_pre _)).nn h0 (by decide)) n243, rfl, rfl, rfl, b.c.trans c1⟩
    · rw [if_neg e203]
      by_cases h4 : (4 : Int32) ≤ z
      · rw [if_pos h4]
        have n243 : ¬ i = 243 := fun e => by
          have ez := (o243.mp e).2.2
          rw [ez] at h4; exact absurd h4 (by decide)
        exact ⟨_, _, MID.oa p1 (top_s s1.1 hy ((hi4 hz).1 h4)) ((t1.tr (tb_top _ _ _)).nn h0 (by decide)) n243, rfl, rfl, rfl, (top_s s1.1 hy ((hi4 hz).1 h4)).c.trans c1⟩
      · rw [if_neg h4]
        have hz4 := (hi4 hz).2 h4
        by_cases c6 : y = 6 ∧ z = 3
        · have e243 : i = 243 := o243.mpr ⟨rfl, c6.1, c6.2⟩
          have e1 : f_Q_doHigh_m M1 y z = f_Q_switchInterrupts_m M1 (0 : Int32) := by
            rw [c6.1, c6.2]; unfold f_Q_doHigh_m f_Q_doHigh_j1_m f_Q_doHigh_j9_m f_Q_doHigh_j2_m; simp (decide := true) only [if_true, if_false]
          have e2 : f_R_third_m N1 y z = mst N1 0 21 (0 : Int32) := by
            rw [c6.1, c6.2]; unfold f_R_third_m f_R_third_j1_m; simp (decide := true) only [if_true, if_false]
          rw [e1, e2]
          exact ⟨_, _, mid_di s1.1 p1 (t1.nn h0 (by decide)) e243, rfl, rfl, rfl, by rw [sw_0, mst_ne (by decide), mst_ne (by decide)]; exact c1⟩
        · have n243 : ¬ i = 243 := fun e => c6 (o243.mp e).2
          by_cases c7 : y = 7 ∧ z = 3
          · have e1 : f_Q_doHigh_m M1 y z = f_Q_switchInterrupts_m M1 (1 : Int32) := by
              rw [c7.1, c7.2]; unfold f_Q_doHigh_m f_Q_doHigh_j1_m f_Q_doHigh_j9_m f_Q_doHigh_j2_m; simp (decide := true) only [if_true, if_false]
            have e2 : f_R_third_m N1 y z = mst N1 0 24 (1 : Int32) := by
              rw [c7.1, c7.2]; unfold f_R_third_m f_R_third_j1_m; simp (decide := true) only [if_true, if_false]
            rw [e1, e2]
            exact ⟨_, _, mid_ei s1.1 p1 (t1.nn h0 (by decide)) n243, rfl, rfl, rfl, by rw [sw_1 p1.b, mst_ne (by decide)]; exact c1⟩
          · exact ⟨_, _, MID.oa p1 (high_s s1.1 p1.b hy hz4 (fun ez => ⟨fun ey => e203 (o203.mpr ⟨rfl, ey, ez⟩), fun ey => c6 ⟨ey, ez⟩, fun ey => c7 ⟨ey, ez⟩⟩)) ((t1.tr (tb_high _ _ _)).nn h0 (by decide)) n243, rfl, rfl, rfl, (high_s s1.1 p1.b hy hz4 (fun ez => ⟨fun ey => e203 (o203.mpr ⟨rfl, ey, ez⟩), fun ey => c6 ⟨ey, ez⟩, fun ey => c7 ⟨ey, ez⟩⟩)).c.trans c1⟩
