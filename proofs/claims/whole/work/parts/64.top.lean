/-! The highest block; how long an instruction takes. -/
theorem mul8 {y : Int32} (hy : 0 ≤ y.toInt ∧ y.toInt < 8) : w16 ((8 : Int32) * y) := by
  rcases eight hy with e | e | e | e | e | e | e | e <;> subst e <;> decide
theorem cc_s {d : Int32} {ρ : Nat → Int32} {M N : Mem} (h : RX d ρ M N) (y : Int32) : SI d ρ M N (if f_Q_holds_v (f_Q_fetchWord_m M) y = 0 then f_Q_fetchWord_m M else mst (f_Q_push_m (f_Q_fetchWord_m M) ((f_Q_fetchWord_m M) 5 8)) 5 8 (f_Q_fetchWord_v M)) (f_R_calls_m (f_R_nextWord_m N) (f_R_holds_v (f_R_nextWord_m N) y) (f_R_nextWord_v N)) := by
  obtain ⟨s1, v1, o1⟩ := word_s h
  rw [hold_s s1.1, v1]
  by_cases e : f_R_holds_v (f_R_nextWord_m N) y = 0
  · rw [if_pos e]; unfold f_R_calls_m; rw [if_pos e]; exact s1
  · rw [if_neg e]
    have c := s1.tr (call_s s1.1 o1)
    have e2 : f_R_calls_m (f_R_nextWord_m N) (f_R_holds_v (f_R_nextWord_m N) y) (f_R_nextWord_v N) = f_R_calls_m (f_R_nextWord_m N) (1 : Int32) (f_R_nextWord_v N) := by
      unfold f_R_calls_m; rw [if_neg e, if_neg (by decide)]
    rw [e2]; exact c
theorem top_s {d : Int32} {ρ : Nat → Int32} {M N : Mem} (h : RX d ρ M N) {y z : Int32} (hy : 0 ≤ y.toInt ∧ y.toInt < 8) (hz : z = 4 ∨ z = 5 ∨ z = 6 ∨ z = 7) : OA d ρ M N (f_Q_doHighest_m M y z) (f_R_third_m N y z) := by
  rcases hz with e | e | e | e <;> subst e <;> unfold f_Q_doHighest_m f_Q_doHighest_j2_m f_Q_doHighest_j6_m f_Q_doHighest_j3_m f_Q_doHighest_j7_m f_Q_doHighest_j5_m f_Q_doHighest_j4_m f_Q_doHighest_j1_m f_R_third_m f_R_third_j1_m <;> simp (decide := true) only [if_true, if_false]
  · rcases eight hy with e | e | e | e | e | e | e | e <;> subst e <;> simp (decide := true) only [if_true, if_false]
    · exact Or.inl (cc_s h 0)
    · exact Or.inl (cc_s h 1)
    · exact Or.inl (cc_s h 2)
    · exact Or.inl (cc_s h 3)
    all_goals exact OA.lock h
  · have hp : 0 ≤ (y >>> ((1 : Int32) &&& (31 : Int32))).toInt ∧ (y >>> ((1 : Int32) &&& (31 : Int32))).toInt < 4 := ⟨(shr1_rng hy).1, by have := (shr1_rng hy).2; omega⟩
    by_cases hq : (y &&& (1 : Int32)) = 0
    · left
      rw [if_pos hq, if_pos hq]
      exact stp_s h hp
    · rw [if_neg hq, if_neg hq]
      rcases eight hy with e | e | e | e | e | e | e | e <;> subst e <;> first | exact absurd (by decide) hq | skip
      all_goals simp (decide := true) only [if_true, if_false]
      · left
        obtain ⟨s1, v1, o1⟩ := word_s h
        rw [v1]; exact s1.tr (call_s s1.1 o1)
      all_goals exact OA.lock h
  · left
    obtain ⟨s1, v1, o1⟩ := fetch_s h
    rw [v1]; exact s1.tr (comb_s s1.1 hy o1)
  · left
    exact call_s h (mul8 hy)
/-- the time that passes -/
def TB (n : Nat) (M M' : Mem) : Prop := ∃ k : Nat, k ≤ n ∧ M' 5 10 = M 5 10 + nI k
theorem TB.tr {a b : Nat} {M M' M'' : Mem} (h : TB a M M') (g : TB b M' M'') : TB (a + b) M M'' := by
  obtain ⟨k, hk, e⟩ := h
  obtain ⟨j, hj, f⟩ := g
  exact ⟨k + j, by omega, by rw [f, e, Int32.add_assoc, nI_add]⟩
theorem TB.up {a b : Nat} {M M' : Mem} (h : TB a M M') (g : a ≤ b) : TB b M M' := by
  obtain ⟨k, hk, e⟩ := h; exact ⟨k, by omega, e⟩
theorem TB.z {M M' : Mem} (h : M' 5 10 = M 5 10) : TB 0 M M' := ⟨0, by decide, by rw [h, nI_0, Int32.add_zero]⟩
theorem TB.mo {a : Nat} {M M' : Mem} (h : TB a M M') {c k : Nat} (hc : ¬ c = 5 ∨ ¬ k = 10) (v : Int32) : TB a M (mst M' c k v) := by
  obtain ⟨j, hj, e⟩ := h
  refine ⟨j, hj, ?_⟩
  rcases hc with g | g
  · rw [mst_no (Ne.symm g)]; exact e
  · by_cases e2 : c = 5
    · subst e2; rw [mst_ne (Ne.symm g)]; exact e
    · rw [mst_no (Ne.symm e2)]; exact e
theorem TB.st {a : Nat} {M M' : Mem} (h : TB a M M') (x v : Int32) : TB a M (f_Y_store_m M' x v) := by
  obtain ⟨j, hj, e⟩ := h
  exact ⟨j, hj, by rw [sto_c _ _ _ (by decide)]; exact e⟩
theorem TB.ad {a : Nat} {M M' : Mem} (h : TB a M M') (n : Nat) : TB (a + n) M (mst M' 5 10 (M' 5 10 + nI n)) := h.tr ⟨n, by omega, by rw [mst_eq]⟩
theorem TB.a1 {a : Nat} {M M' : Mem} (h : TB a M M') : TB (a + 1) M (mst M' 5 10 (M' 5 10 + (1 : Int32))) := h.ad 1
theorem TB.rf (M : Mem) : TB 0 M M := TB.z rfl
theorem tb_fetch (M : Mem) : TB 1 M (f_Q_fetch_m M) := by
  unfold f_Q_fetch_m; dsimp only
  exact ((TB.rf M).mo (by decide) _).ad 1
theorem tb_word (M : Mem) : TB 2 M (f_Q_fetchWord_m M) := (tb_fetch M).tr (tb_fetch _)
theorem tb_spair (M : Mem) (p v : Int32) : TB 0 M (f_Q_setPair_m M p v) := by
  unfold f_Q_setPair_m f_Q_setPair_j1_m; dsimp only
  split
  · exact (TB.rf M).mo (by decide) _
  · exact ((TB.rf M).mo (Or.inl (by decide)) _).mo (Or.inl (by decide)) _
theorem tb_oct (M : Mem) (k : Int32) : TB 1 M (f_Q_octetAt_m M k) := by
  unfold f_Q_octetAt_m; dsimp only
  split
  · exact (TB.rf M).ad 1
  · exact (TB.rf M).up (by decide)
theorem tb_soct (M : Mem) (k v : Int32) : TB 1 M (f_Q_setOctet_m M k v) := by
  unfold f_Q_setOctet_m; dsimp only
  split
  · exact ((TB.rf M).ad 1).st _ _
  · exact ((TB.rf M).mo (Or.inl (by decide)) _).up (by decide)
theorem tb_push (M : Mem) (v : Int32) : TB 3 M (f_Q_push_m M v) := by
  unfold f_Q_push_m; dsimp only
  exact ((((TB.rf M).st _ _).st _ _).mo (by decide) _).ad 3
theorem tb_pop (M : Mem) : TB 2 M (f_Q_pop_m M) := by
  unfold f_Q_pop_m; dsimp only
  exact ((TB.rf M).mo (by decide) _).ad 2
theorem tb_jump (M : Mem) (g t : Int32) : TB 1 M (f_Q_jump_m M g t) := by
  unfold f_Q_jump_m f_Q_jump_j1_m; dsimp only
  split
  · exact (TB.rf M).up (by decide)
  · exact ((TB.rf M).mo (by decide) _).ad 1
theorem tb_copyA (M : Mem) (a g : Int32) : TB 1 M (f_Q_copyA_m M a g) := by
  unfold f_Q_copyA_m f_Q_copyA_j1_m; dsimp only
  split
  · exact ((TB.rf M).ad 1).st _ _
  · exact ((TB.rf M).ad 1).mo (Or.inl (by decide)) _
theorem tb_ssp (M : Mem) (a : Int32) : TB 2 M (f_Q_storeStackPointer_m M a) := by
  unfold f_Q_storeStackPointer_m; dsimp only
  exact (((TB.rf M).st _ _).st _ _).ad 2
theorem tb_hl (M : Mem) (a : Int32) : TB 1 M (f_Q_addToHl_m M a) := by
  have j2 : ∀ (x y z : Int32), TB 1 M (f_Q_addToHl_j2_m M a x y z) := by
    intro x y z
    unfold f_Q_addToHl_j2_m; dsimp only
    exact (((TB.rf M).mo (Or.inl (by decide)) _).tr (tb_spair _ _ _)).ad 1
  unfold f_Q_addToHl_m f_Q_addToHl_j1_m; dsimp only
  repeat' split
  all_goals exact j2 _ _ _
theorem tb_asp (M : Mem) (p n : Int32) : TB 2 M (f_Q_addToStackPointer_m M p n) := by
  have j2 : ∀ (x y : Int32), TB 2 M (f_Q_addToStackPointer_j2_m M p n x y) := by
    intro x y
    unfold f_Q_addToStackPointer_j2_m f_Q_addToStackPointer_j3_m; dsimp only
    have t := ((TB.rf M).mo (c := 17) (k := 6) (Or.inl (by decide)) (x ||| y)).tr (tb_spair _ p ((mst M 17 6 (x ||| y)) 5 7 + n.toInt8.toInt32))
    split
    · exact t.ad 2
    · exact (t.ad 1).up (by decide)
  unfold f_Q_addToStackPointer_m f_Q_addToStackPointer_j1_m; (try dsimp only)
  repeat' split
  all_goals exact j2 _ _
theorem tb_rif (M : Mem) (g : Int32) : TB 4 M (f_Q_returnIf_m M g) := by
  unfold f_Q_returnIf_m f_Q_returnIf_j1_m; dsimp only
  split
  · exact ((TB.rf M).ad 1).up (by decide)
  · exact (((TB.rf M).ad 1).tr (tb_pop _)).tr (tb_jump _ _ _)
theorem tb_sap (M : Mem) (p v : Int32) : TB 0 M (f_Q_setStackPair_m M p v) := by
  unfold f_Q_setStackPair_m f_Q_setStackPair_j1_m; dsimp only
  split
  · exact ((TB.rf M).mo (Or.inl (by decide)) _).mo (Or.inl (by decide)) _
  · exact tb_spair _ _ _
theorem tb_add (M : Mem) (v c : Int32) : TB 0 M (f_Q_add_m M v c) := by
  unfold f_Q_add_m f_Q_add_j1_m f_Q_add_j2_m; dsimp only
  repeat' split
  all_goals exact ((TB.rf M).mo (Or.inl (by decide)) _).mo (Or.inl (by decide)) _
theorem tb_dif (M : Mem) (v c : Int32) : TB 0 M (f_Q_difference_m M v c) := by
  unfold f_Q_difference_m f_Q_difference_j1_m f_Q_difference_j2_m; dsimp only
  repeat' split
  all_goals exact (TB.rf M).mo (Or.inl (by decide)) _
theorem tb_log (M : Mem) (v c : Int32) : TB 0 M (f_Q_setLogic_m M v c) := by
  unfold f_Q_setLogic_m; dsimp only
  exact ((TB.rf M).mo (Or.inl (by decide)) _).mo (Or.inl (by decide)) _
theorem tb_comb (M : Mem) (y v : Int32) : TB 0 M (f_Q_combine_m M y v) := by
  unfold f_Q_combine_m f_Q_combine_j1_m f_Q_combine_j2_m; dsimp only
  repeat' split
  all_goals first | exact tb_add _ _ _ | exact tb_log _ _ _ | exact tb_dif _ _ _ | exact (tb_dif _ _ _).mo (Or.inl (by decide)) _
theorem tb_shift (M : Mem) (y v : Int32) : TB 0 M (f_Q_shifted_m M y v) := by
  have j4 : ∀ o t : Int32, TB 0 M (f_Q_shifted_j4_m M o t) := by
    intro o t
    unfold f_Q_shifted_j4_m f_Q_shifted_j5_m; dsimp only
    repeat' split
    all_goals exact (TB.rf M).mo (Or.inl (by decide)) _
  have j2 : ∀ c o : Int32, TB 0 M (f_Q_shifted_j2_m M y v c o) := by
    intro c o
    unfold f_Q_shifted_j2_m f_Q_shifted_j3_m; (try dsimp only)
    repeat' split
    all_goals exact j4 _ _
  unfold f_Q_shifted_m f_Q_shifted_j1_m f_Q_shifted_j6_m; (try dsimp only)
  repeat' split
  all_goals exact j2 _ _
theorem tb_daa (M : Mem) : TB 0 M (f_Q_adjustDecimal_m M) := by
  have j3 : ∀ a f c x : Int32, TB 0 M (f_Q_adjustDecimal_j3_m M a f c x) := by
    intro a f c x
    unfold f_Q_adjustDecimal_j3_m f_Q_adjustDecimal_j4_m; dsimp only
    repeat' split
    all_goals exact ((TB.rf M).mo (Or.inl (by decide)) _).mo (Or.inl (by decide)) _
  have j6 : ∀ a f h c x : Int32, TB 0 M (f_Q_adjustDecimal_j6_m M a f h c x) := by
    intro a f h c x
    unfold f_Q_adjustDecimal_j6_m f_Q_adjustDecimal_j7_m f_Q_adjustDecimal_j8_m f_Q_adjustDecimal_j7_m; dsimp only
    repeat' split
    all_goals exact j3 _ _ _ _
  have j5 : ∀ a f h c : Int32, TB 0 M (f_Q_adjustDecimal_j5_m M a f h c) := by
    intro a f h c
    unfold f_Q_adjustDecimal_j5_m
    split <;> exact j6 _ _ _ _ _
  have j10 : ∀ a f c h x : Int32, TB 0 M (f_Q_adjustDecimal_j10_m M a f c h x) := by
    intro a f c h x
    unfold f_Q_adjustDecimal_j10_m f_Q_adjustDecimal_j11_m; dsimp only
    split <;> exact j3 _ _ _ _
  have j2 : ∀ a f c h : Int32, TB 0 M (f_Q_adjustDecimal_j2_m M a f c h) := by
    intro a f c h
    unfold f_Q_adjustDecimal_j2_m f_Q_adjustDecimal_j9_m
    repeat' split
    all_goals first | exact j5 _ _ _ _ | exact j10 _ _ _ _ _
  unfold f_Q_adjustDecimal_m f_Q_adjustDecimal_j1_m; dsimp only
  repeat' split
  all_goals exact j2 _ _ _ _
theorem tb_chA (M : Mem) (y : Int32) : TB 0 M (f_Q_changeA_m M y) := by
  unfold f_Q_changeA_m f_Q_changeA_j1_m; dsimp only
  repeat' split
  all_goals first | with_reducible exact tb_daa M | with_reducible exact (TB.rf M).mo (Or.inl (by decide)) _ | with_reducible exact ((TB.rf M).mo (Or.inl (by decide)) _).mo (Or.inl (by decide)) _ | with_reducible exact ((tb_shift M _ _).mo (Or.inl (by decide)) _).mo (Or.inl (by decide)) _
theorem tb_inc (M : Mem) (v : Int32) : TB 0 M (f_Q_increased_m M v) := by
  unfold f_Q_increased_m f_Q_increased_j1_m; dsimp only
  repeat' split
  all_goals exact (TB.rf M).mo (Or.inl (by decide)) _
theorem tb_dec (M : Mem) (v : Int32) : TB 0 M (f_Q_decreased_m M v) := by
  unfold f_Q_decreased_m f_Q_decreased_j1_m; dsimp only
  repeat' split
  all_goals exact (TB.rf M).mo (Or.inl (by decide)) _
theorem tb_low (M : Mem) (y z : Int32) : TB 9 M (f_Q_doLow_m M y z) := by
  have j5 : ∀ (X : Mem) (x c : Int32), TB 1 M X → TB 9 M (f_Q_doLow_j5_m X x c) := fun X x c h => by
    unfold f_Q_doLow_j5_m f_Q_doLow_j2_m; exact (h.tr (tb_spair _ _ _)).up (by decide)
  have j6 : ∀ (p x c : Int32), TB 9 M (f_Q_doLow_j6_m M p x c) := fun p x c => by
    unfold f_Q_doLow_j6_m f_Q_doLow_j2_m; exact ((tb_spair _ _ _).a1).up (by decide)
  have j3 : ∀ (X : Mem) (x c : Int32), TB 1 M X → TB 9 M (f_Q_doLow_j3_m X x c) := fun X x c h => by
    unfold f_Q_doLow_j3_m f_Q_doLow_j2_m; exact (h.tr (tb_jump _ _ _)).up (by decide)
  have cd : ∀ X : Mem, TB 1 M X → TB 9 M (f_P_clearDivider_m X) := fun X h => by
    unfold f_P_clearDivider_m; exact (h.mo (Or.inl (by decide)) _).up (by decide)
  rw [low_j]
  unfold f_Q_doLow_j1_m f_Q_doLow_j4_m f_Q_doLow_j2_m; dsimp only
  repeat' split
  all_goals first
    | with_reducible exact j6 _ _ _
    | with_reducible exact j5 _ _ _ (tb_copyA _ _ _)
    | with_reducible exact j3 _ _ _ (tb_fetch _)
    | with_reducible exact cd _ (tb_fetch _)
    | with_reducible exact ((tb_word M).tr (tb_ssp _ _)).up (by decide)
    | with_reducible exact (TB.rf M).up (by decide)
    | with_reducible exact ((tb_word M).tr (tb_spair _ _ _)).up (by decide)
    | with_reducible exact (tb_hl M _).up (by decide)
    | with_reducible exact (tb_copyA M _ _).up (by decide)
    | with_reducible exact (((tb_oct M _).tr (tb_inc _ _)).tr (tb_soct _ _ _)).up (by decide)
    | with_reducible exact (((tb_oct M _).tr (tb_dec _ _)).tr (tb_soct _ _ _)).up (by decide)
    | with_reducible exact ((tb_fetch M).tr (tb_soct _ _ _)).up (by decide)
    | with_reducible exact (tb_chA M _).up (by decide)
theorem tb_copy (M : Mem) (y z : Int32) : TB 9 M (f_Q_doCopy_m M y z) := by
  unfold f_Q_doCopy_m f_Q_doCopy_j1_m f_Q_doCopy_j2_m f_Q_doCopy_j1_m; dsimp only
  repeat' split
  all_goals first | with_reducible exact ((TB.rf M).mo (by decide) _).up (by decide) | with_reducible exact ((tb_oct M _).tr (tb_soct _ _ _)).up (by decide)
theorem tb_pre (M : Mem) : TB 9 M (f_Q_doPrefixed_m M) := by
  unfold f_Q_doPrefixed_m f_Q_doPrefixed_j1_m; dsimp only
  have t : ∀ k : Int32, TB 2 M (f_Q_octetAt_m (f_Q_fetch_m M) k) := fun k => (tb_fetch M).tr (tb_oct _ _)
  repeat' split
  all_goals first
    | with_reducible exact (((t _).tr (tb_shift _ _ _)).tr (tb_soct _ _ _)).up (by decide)
    | with_reducible exact ((t _).mo (Or.inl (by decide)) _).up (by decide)
    | with_reducible exact ((t _).tr (tb_soct _ _ _)).up (by decide)
theorem tb_sw (M : Mem) (x : Int32) : TB 0 M (f_Q_switchInterrupts_m M x) := by
  unfold f_Q_switchInterrupts_m f_Q_switchInterrupts_j1_m f_Q_switchInterrupts_j4_m f_Q_switchInterrupts_j1_m f_Q_switchInterrupts_j2_m f_Q_switchInterrupts_j3_m f_Q_switchInterrupts_j2_m; dsimp only
  repeat' split
  all_goals exact ((TB.rf M).mo (by decide) _).mo (by decide) _
theorem tb_high (M : Mem) (y z : Int32) : TB 9 M (f_Q_doHigh_m M y z) := by
  have j3 : ∀ (X : Mem) (x c : Int32), TB 2 M X → TB 9 M (f_Q_doHigh_j3_m x X c) := fun X x c h => by
    unfold f_Q_doHigh_j3_m f_Q_doHigh_j2_m; exact (h.tr (tb_copyA _ _ _)).up (by decide)
  have j7 : ∀ (X : Mem) (x c : Int32), TB 2 M X → TB 9 M (f_Q_doHigh_j7_m c x X) := fun X x c h => by
    unfold f_Q_doHigh_j7_m f_Q_doHigh_j8_m f_Q_doHigh_j2_m; dsimp only
    split <;> exact (h.tr (tb_copyA _ _ _)).up (by decide)
  have j4 : ∀ (p : Int32), TB 9 M (f_Q_doHigh_j4_m M p) := fun p => by
    unfold f_Q_doHigh_j4_m f_Q_doHigh_j2_m; exact ((tb_fetch M).tr (tb_asp _ _ _)).up (by decide)
  have jr : TB 3 M (f_Q_jump_m (f_Q_pop_m M) (1 : Int32) (f_Q_pop_v M)) := (tb_pop M).tr (tb_jump _ _ _)
  rw [high_j]
  unfold f_Q_doHigh_j1_m f_Q_doHigh_j6_m f_Q_doHigh_j5_m f_Q_doHigh_j9_m f_Q_doHigh_j2_m; dsimp only
  repeat' split
  all_goals first
    | with_reducible exact j4 _
    | with_reducible exact j3 _ _ _ ((tb_fetch _).up (by decide))
    | with_reducible exact j7 _ _ _ ((TB.rf _).up (by decide))
    | with_reducible exact j7 _ _ _ (tb_word _)
    | with_reducible exact (tb_rif M _).up (by decide)
    | with_reducible exact ((tb_pop M).tr (tb_sap _ _ _)).up (by decide)
    | with_reducible exact ((TB.rf M).mo (by decide) _).up (by decide)
    | with_reducible exact (((TB.rf M).mo (by decide) _).a1).up (by decide)
    | with_reducible exact (jr.mo (by decide) _).up (by decide)
    | with_reducible exact ((tb_word M).tr (tb_jump _ _ _)).up (by decide)
    | with_reducible exact (tb_sw M _).up (by decide)
theorem tb_top (M : Mem) (y z : Int32) : TB 9 M (f_Q_doHighest_m M y z) := by
  have j3 : ∀ (a b : Int32), TB 9 M (f_Q_doHighest_j3_m M a b) := fun a b => by
    unfold f_Q_doHighest_j3_m f_Q_doHighest_j5_m f_Q_doHighest_j4_m f_Q_doHighest_j1_m; dsimp only
    repeat' split
    all_goals first | with_reducible exact (tb_word M).up (by decide) | with_reducible exact (((tb_word M).tr (tb_push _ _)).mo (by decide) _).up (by decide)
  unfold f_Q_doHighest_m f_Q_doHighest_j2_m f_Q_doHighest_j6_m f_Q_doHighest_j7_m f_Q_doHighest_j1_m; dsimp only
  repeat' split
  all_goals first
    | with_reducible exact j3 _ _
    | with_reducible exact ((TB.rf M).mo (by decide) _).up (by decide)
    | with_reducible exact ((tb_fetch M).tr (tb_comb _ _ _)).up (by decide)
    | with_reducible exact ((tb_push M _).mo (by decide) _).up (by decide)
    | with_reducible exact (tb_push M _).up (by decide)
