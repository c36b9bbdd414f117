/-! A store does not look at the processor. -/
theorem n05 {M : Mem} {k c : Nat} {x : Int32} (h : ¬ c = 5) : mst M 5 k x c = M c := mst_no h
theorem c05 {M : Mem} {k c i : Nat} {x v : Int32} (h : ¬ c = 5) : mst (mst M 5 k x) c i v = mst (mst M c i v) 5 k x := mst_co2 (Ne.symm h)
theorem bg_load (M : Mem) (k : Nat) (x a : Int32) : f_Y_load_v (mst M 5 k x) a = f_Y_load_v M a := by
  have e : ∀ c : Nat, ¬ c = 5 → mst M 5 k x c = M c := fun c hc => mst_no hc
  unfold f_Y_load_v f_Y_load_j1_v f_K_loadRam_v f_K_loadRam_j1_v f_K_loadRom_v f_K_loadRom_j1_v f_P_load_v f_P_load_j1_v f_P_load_j2_v f_P_load_j3_v
  simp only [e 1 (by decide), e 2 (by decide), e 6 (by decide), e 7 (by decide), e 8 (by decide), e 9 (by decide), e 10 (by decide), e 11 (by decide), e 12 (by decide)]
theorem bg_find (M : Mem) (k : Nat) (x : Int32) : f_P_findState_m (mst M 5 k x) = mst (f_P_findState_m M) 5 k x := by
  unfold f_P_findState_m f_P_findState_j2_m f_P_findState_j1_m; dsimp only
  rw [n05 (c := 8) (by decide), n05 (c := 2) (by decide)]
  repeat' split
  all_goals simp only [c05 (show ¬ 2 = 5 by decide)]
theorem bg_pst (M : Mem) (k : Nat) (x p v : Int32) : f_P_store_m (mst M 5 k x) p v = mst (f_P_store_m M p v) 5 k x := by
  unfold f_P_store_m f_P_store_j1_m f_P_clearDivider_m; dsimp only
  repeat' split
  all_goals simp only [c05 (show ¬ 8 = 5 by decide), c05 (show ¬ 2 = 5 by decide), bg_find]
theorem bg_settle (M : Mem) (k : Nat) (x : Int32) : f_K_settle_m (mst M 5 k x) = mst (f_K_settle_m M) 5 k x := by
  have j2 : ∀ (X : Mem) (y : Int32), f_K_settle_j2_m (mst X 5 k x) y = mst (f_K_settle_j2_m X y) 5 k x := by
    intro X y; unfold f_K_settle_j2_m; dsimp only; rw [c05 (by decide)]
  have j1 : ∀ y : Int32, f_K_settle_j1_m (mst M 5 k x) y = mst (f_K_settle_j1_m M y) 5 k x := by
    intro y
    unfold f_K_settle_j1_m f_K_settle_j3_m; dsimp only
    rw [c05 (c := 1) (by decide)]
    generalize mst M 1 4 y = A
    rw [n05 (c := 1) (by decide), c05 (c := 1) (by decide)]
    generalize mst A 1 5 ((A 1 8) &&& (7 : Int32)) = B
    rw [n05 (c := 1) (by decide)]
    repeat' split
    all_goals exact j2 _ _
  unfold f_K_settle_m f_K_settle_j4_m f_K_settle_j5_m
  rw [n05 (c := 1) (by decide)]
  repeat' split
  all_goals exact j1 _
theorem bg_ctl (M : Mem) (k : Nat) (x a v : Int32) : f_K_control_m (mst M 5 k x) a v = mst (f_K_control_m M a v) 5 k x := by
  have h1 : f_K_controlOne_m (mst M 5 k x) a v = mst (f_K_controlOne_m M a v) 5 k x := by
    unfold f_K_controlOne_m f_K_controlOne_j3_m f_K_controlOne_j2_m f_K_controlOne_j1_m; dsimp only
    repeat' split
    all_goals rw [c05 (by decide)]
  have h2 : f_K_controlTwo_m (mst M 5 k x) a v = mst (f_K_controlTwo_m M a v) 5 k x := by
    unfold f_K_controlTwo_m f_K_controlTwo_j3_m f_K_controlTwo_j2_m f_K_controlTwo_j1_m; dsimp only
    repeat' split
    all_goals first | rw [c05 (by decide)] | rfl
  have h3 : f_K_controlThree_m (mst M 5 k x) a v = mst (f_K_controlThree_m M a v) 5 k x := by
    unfold f_K_controlThree_m f_K_controlThree_j2_m f_K_controlThree_j1_m; dsimp only
    rw [n05 (c := 1) (by decide)]
    repeat' split
    all_goals first | rw [c05 (by decide)] | rfl
  unfold f_K_control_m f_K_control_j1_m; dsimp only
  rw [n05 (c := 1) (by decide), h1, h2, h3]
  repeat' split
  all_goals first | rfl | rw [bg_settle]
theorem bg_dma (k : Nat) (x v : Int32) : ∀ (n : Nat) (i : Int32) (M : Mem), 0 ≤ i.toInt → i.toInt ≤ 160 → 160 < i.toInt + n → f_Y_store_l1_m v n i (mst M 5 k x) = mst (f_Y_store_l1_m v n i M) 5 k x := by
  intro n
  induction n with
  | zero => intro i M h1 h2 h3; exact absurd h3 (by omega)
  | succ n ih =>
    intro i M h1 h2 h3
    rw [f_Y_store_l1_m_s, f_Y_store_l1_m_s]; dsimp only
    by_cases hc : (160 : Int32) ≤ i
    · rw [if_pos hc, if_pos hc]; rfl
    · rw [if_neg hc, if_neg hc, bg_load, c05 (by decide)]
      have h160 : (160 : Int32).toInt = 160 := by decide
      rw [ti_le] at hc
      have h7 := a1_ti (a := i) (by omega)
      exact ih _ _ (by omega) (by omega) (by omega)
theorem bg_st (M : Mem) (k : Nat) (x a v : Int32) : f_Y_store_m (mst M 5 k x) a v = mst (f_Y_store_m M a v) 5 k x := by
  have j2 : f_Y_store_j2_m (mst M 5 k x) a v = mst (f_Y_store_j2_m M a v) 5 k x := by
    unfold f_Y_store_j2_m f_Y_store_j1_m; dsimp only
    rw [bg_pst]
    repeat' split
    · rfl
    · exact bg_dma k x v 161 0 _ (by decide) (by decide) (by decide)
    · rfl
  have hr : f_K_storeRam_m (mst M 5 k x) a v = mst (f_K_storeRam_m M a v) 5 k x := by
    unfold f_K_storeRam_m f_K_storeRam_j2_m f_K_storeRam_j1_m; dsimp only
    rw [n05 (c := 1) (by decide)]
    repeat' split
    all_goals first | rfl | rw [c05 (by decide)]
  unfold f_Y_store_m f_Y_store_j1_m; dsimp only
  rw [j2, hr, bg_ctl]
  repeat' split
  all_goals first | rfl | rw [c05 (by decide)]
/-! The first block. -/
theorem wrm_v (N : Mem) (a v : Int32) : f_R_writes_m N a v = f_R_writes_m N a (v &&& (255 : Int32)) := by
  unfold f_R_writes_m; (try dsimp only)
  rw [and_id8 (a := v &&& (255 : Int32)) (and_lt (by decide))]
theorem wrm_a (N : Mem) (a v : Int32) : f_R_writes_m N a v = f_R_writes_m N (a &&& (65535 : Int32)) v := by
  unfold f_R_writes_m; (try dsimp only)
  rw [and_id (a := a &&& (65535 : Int32)) (and_lt (by decide))]
theorem wrm_n (N : Mem) (a v : Int32) {c j : Nat} (hc : c = 7 ∨ c = 8 ∨ (c = 0 ∧ ((17 ≤ j ∧ j < 25 ∧ ¬ j = 20) ∨ (47 ≤ j ∧ j ≤ 49)))) : f_R_writes_m N a v c j = N c j := by
  unfold f_R_writes_m; (try dsimp only)
  rw [put_n _ _ _ (by omega)]
  by_cases e : c = 0
  · subst e; rw [mst_ne (by omega)]
  · rw [mst_no e]
theorem ssp_s {d : Int32} {ρ : Nat → Int32} {M N : Mem} (h : RX d ρ M N) {a : Int32} (ha : w16 a) : SI d ρ M N (f_Q_storeStackPointer_m M a) (f_R_writes_m (f_R_writes_m N a (N 0 18)) (a + (1 : Int32)) ((f_R_writes_m N a (N 0 18)) 0 18 >>> ((8 : Int32) &&& (31 : Int32)))) := by
  have hsp := h.sp
  have g2 := h.2.1.2.1
  have lo : oct (N 0 18 &&& (255 : Int32)) := and_lt (by decide)
  have hi : oct (N 0 18 >>> ((8 : Int32) &&& (31 : Int32))) := shr8_rng hsp
  have w1 : w16 ((a + (1 : Int32)) &&& (65535 : Int32)) := and_lt (by decide)
  have s1 := wr_s h ha lo
  have s2 := s1.tr (wr_s s1.1 w1 hi)
  rw [wrm_n N a _ (by decide), wrm_v N a, wrm_a _ (a + (1 : Int32))]
  have e : f_Q_storeStackPointer_m M a = f_Y_store_m (mst (f_Y_store_m (mst M 5 10 (M 5 10 + (1 : Int32))) a (N 0 18 &&& (255 : Int32))) 5 10 ((f_Y_store_m (mst M 5 10 (M 5 10 + (1 : Int32))) a (N 0 18 &&& (255 : Int32))) 5 10 + (1 : Int32))) ((a + (1 : Int32)) &&& (65535 : Int32)) (N 0 18 >>> ((8 : Int32) &&& (31 : Int32))) := by
    unfold f_Q_storeStackPointer_m; dsimp only
    rw [sto_c (f_Y_store_m M a _) _ _ (by decide), sto_c M _ _ (by decide), g2]
    rw [bg_st M, bg_st, mst_eq, bg_st, mst_mst, Int32.add_assoc]; rfl
  rw [e]; exact s2
theorem div_s {d : Int32} {ρ : Nat → Int32} {M N : Mem} (h : RX d ρ M N) : SI d ρ M N (f_P_clearDivider_m M) (mst N 0 27 (0 : Int32)) := by
  have s := p_st h (a := (65284 : Int32)) (v := 0) (by decide) (by decide)
  have e1 : f_Y_store_m M (65284 : Int32) 0 = f_P_clearDivider_m M := by
    unfold f_Y_store_m f_Y_store_j2_m f_Y_store_j1_m f_P_store_m f_P_store_j1_m; simp (decide := true) only [if_true, if_false]
  have e2 : f_R_put_m N (65284 : Int32) 0 = mst N 0 27 (0 : Int32) := by
    unfold f_R_put_m f_R_put_j1_m f_R_put_j3_m f_R_put_j2_m f_R_put_j1_m f_R_setPort_m f_R_setPort_j1_m; simp (decide := true) only [if_true, if_false]
  rw [e1, e2] at s; exact s
theorem hl_d : ∀ (j : Fin 16) (h c : Bool), fg 16 (if c then 1 else 0) (fg 32 (if h then 1 else 0) (fg 64 0 (nI (16 * j.val)))) = (((nI (16 * j.val)) &&& (128 : Int32)) ||| (if h then (32 : Int32) else 0)) ||| (if c then (16 : Int32) else 0) ∧ oct ((((nI (16 * j.val)) &&& (128 : Int32)) ||| (if h then (32 : Int32) else 0)) ||| (if c then (16 : Int32) else 0)) ∧ (((((nI (16 * j.val)) &&& (128 : Int32)) ||| (if h then (32 : Int32) else 0)) ||| (if c then (16 : Int32) else 0)) &&& (15 : Int32)) = 0 := by decide +kernel
theorem hl_s {d : Int32} {ρ : Nat → Int32} {M N : Mem} (h : RX d ρ M N) (v : Int32) : SI d ρ M N (f_Q_addToHl_m M v) (if ((f_R_pair_v N (2 : Int32) &&& (4095 : Int32)) + (v &&& (4095 : Int32))) ≤ (4095 : Int32) then (f_R_first_j4_m (f_R_pair_v N (2 : Int32)) v (f_R_flag_m N (64 : Int32) (0 : Int32)) (0 : Int32)) else (f_R_first_j4_m (f_R_pair_v N (2 : Int32)) v (f_R_flag_m N (64 : Int32) (0 : Int32)) (1 : Int32))) := by
  obtain ⟨j, hj, e⟩ := h.f
  have q := hl_d ⟨j, hj⟩
  rw [show nI (16 * ((⟨j, hj⟩ : Fin 16) : Nat)) = N 8 6 from e.symm] at q
  have q00 := q false false
  have q01 := q false true
  have q10 := q true false
  have q11 := q true true
  simp (decide := true) only [if_true, if_false] at q00 q01 q10 q11
  have fin : ∀ f : Int32, oct f → (f &&& (15 : Int32)) = 0 → SI d ρ M N (mst (f_Q_setPair_m (mst M 17 6 f) (2 : Int32) (f_R_pair_v N (2 : Int32) + v)) 5 10 ((f_Q_setPair_m (mst M 17 6 f) (2 : Int32) (f_R_pair_v N (2 : Int32) + v)) 5 10 + (1 : Int32))) (mst (f_R_setPair_m (mst N 8 6 f) (2 : Int32) (f_R_pair_v N (2 : Int32) + v)) 0 20 ((f_R_setPair_m (mst N 8 6 f) (2 : Int32) (f_R_pair_v N (2 : Int32) + v)) 0 20 + (1 : Int32))) := by
    intro f h1 h2
    have a := p_r h (k := 6) h1 (fun _ => h2)
    have b := a.tr (spair_s a.1 (p := 2) (by decide) (f_R_pair_v N (2 : Int32) + v))
    exact b.tr (p_tick b.1 1)
  unfold f_Q_addToHl_m f_Q_addToHl_j1_m f_Q_addToHl_j2_m f_R_first_j4_m f_R_first_j5_m f_R_first_j1_m; dsimp only
  rw [(pair_s h (p := 2) (by decide)).1, (h.r 6).1]
  simp only [flag_eq, mst_eq, mst_mst]
  by_cases h1 : ((f_R_pair_v N (2 : Int32) &&& (4095 : Int32)) + (v &&& (4095 : Int32))) ≤ (4095 : Int32) <;> by_cases h2 : (f_R_pair_v N (2 : Int32) + v) ≤ (65535 : Int32) <;> simp only [h1, h2, if_true, if_false]
  · rw [q00.1]; exact fin _ q00.2.1 q00.2.2
  · rw [q01.1]; exact fin _ q01.2.1 q01.2.2
  · rw [q10.1]; exact fin _ q10.2.1 q10.2.2
  · rw [q11.1]; exact fin _ q11.2.1 q11.2.2
theorem rp_n (N : Mem) (c k : Nat) (v : Int32) (h : ¬ (c = 0 ∧ k = 18) ∧ ¬ (c = 8 ∧ (k = 4 ∨ k = 5))) : f_R_pair_v (mst N c k v) (2 : Int32) = f_R_pair_v N (2 : Int32) := by
  have e4 : mst N c k v 8 4 = N 8 4 := by
    by_cases e : c = 8
    · subst e; exact mst_ne (by omega)
    · rw [mst_no (Ne.symm e)]
  have e5 : mst N c k v 8 5 = N 8 5 := by
    by_cases e : c = 8
    · subst e; exact mst_ne (by omega)
    · rw [mst_no (Ne.symm e)]
  show f_R_pair_j1_v ((mst N c k v 8 4 <<< _) ||| mst N c k v 8 5) = f_R_pair_j1_v ((N 8 4 <<< _) ||| N 8 5)
  rw [e4, e5]
theorem rp_w (N : Mem) (a v : Int32) : f_R_pair_v (f_R_writes_m N a v) (2 : Int32) = f_R_pair_v N (2 : Int32) := by
  show f_R_pair_j1_v ((f_R_writes_m N a v 8 4 <<< _) ||| f_R_writes_m N a v 8 5) = f_R_pair_j1_v ((N 8 4 <<< _) ||| N 8 5)
  rw [wrm_n _ _ _ (by decide), wrm_n _ _ _ (by decide)]
theorem low_j {M : Mem} {y z : Int32} : f_Q_doLow_m M y z = f_Q_doLow_j1_m M y z (y >>> ((1 : Int32) &&& (31 : Int32))) (y &&& (1 : Int32)) := by
  unfold f_Q_doLow_m; (try dsimp only)
  rcases b1 y with e | e <;> rw [e]
  · rw [if_pos rfl]
  · rw [if_neg (by decide)]
/-- a copy by way of a pair -/
theorem cpp_s {d : Int32} {ρ : Nat → Int32} {M N : Mem} (h : RX d ρ M N) {a q : Int32} (ha : w16 a) (hq : isB q) {p : Int32} (hp : p = 0 ∨ p = 1 ∨ ((p = 2 ∨ p = 3) ∧ a = f_R_pair_v N (2 : Int32))) : SI d ρ M N (if p < (2 : Int32) then (f_Q_copyA_m M a q) else let x174 : Int32 := f_Q_pair_v (f_Q_copyA_m M a q) (2 : Int32); (if p = (2 : Int32) then (f_Q_doLow_j5_m (f_Q_copyA_m M a q) x174 (1 : Int32)) else (f_Q_doLow_j5_m (f_Q_copyA_m M a q) x174 (-1 : Int32)))) (f_R_first_j6_m N q p a) := by
  have key : ∀ (M' N' : Mem), SI d ρ M N M' N' → f_R_pair_v N' (2 : Int32) = f_R_pair_v N (2 : Int32) → SI d ρ M N (if p < (2 : Int32) then M' else let x174 : Int32 := f_Q_pair_v M' (2 : Int32); (if p = (2 : Int32) then (f_Q_doLow_j5_m M' x174 (1 : Int32)) else (f_Q_doLow_j5_m M' x174 (-1 : Int32)))) (f_R_first_j7_m p a N') := by
    intro M' N' s e
    unfold f_R_first_j7_m f_R_first_j8_m f_R_first_j1_m f_Q_doLow_j5_m f_Q_doLow_j2_m; dsimp only
    rw [(pair_s s.1 (p := 2) (by decide)).1, e]
    rcases hp with rfl | rfl | ⟨rfl | rfl, rfl⟩ <;> simp (decide := true) only [if_true, if_false]
    · exact s
    · exact s
    · exact s.tr (spair_s s.1 (p := 2) (by decide) _)
    · rw [Int32.sub_eq_add_neg]; exact s.tr (spair_s s.1 (p := 2) (by decide) _)
  unfold f_R_first_j6_m; dsimp only
  rcases hq with rfl | rfl
  · rw [if_pos rfl]
    exact key _ _ (cpst_s h ha) (rp_w _ _ _)
  · rw [if_neg (show ¬ (1 : Int32) = 0 by decide)]
    refine key _ _ (cpld_s h (g := 1) (by decide) ha) ?_
    rw [rp_n _ _ _ _ (by decide)]
    exact rp_n _ _ _ _ (by decide)
theorem low_s {d : Int32} {ρ : Nat → Int32} {M N : Mem} (h : RX d ρ M N) {y z : Int32} (hy : 0 ≤ y.toInt ∧ y.toInt < 8) (hz : 0 ≤ z.toInt ∧ z.toInt < 8) : SI d ρ M N (f_Q_doLow_m M y z) (f_R_first_m N y z) := by
  have hp : 0 ≤ (y >>> ((1 : Int32) &&& (31 : Int32))).toInt ∧ (y >>> ((1 : Int32) &&& (31 : Int32))).toInt < 4 := ⟨(shr1_rng hy).1, by have := (shr1_rng hy).2; omega⟩
  have hq := b1 y
  rw [low_j]
  rcases eight hz with e | e | e | e | e | e | e | e <;> subst e <;> unfold f_Q_doLow_j1_m f_R_first_m <;> simp (decide := true) only [if_true, if_false]
  · rcases eight hy with e | e | e | e | e | e | e | e <;> subst e <;> simp (decide := true) only [if_true, if_false]
    · exact SI.rf h
    · obtain ⟨s1, v1, o1⟩ := word_s h
      rw [v1]; exact s1.tr (ssp_s s1.1 o1)
    · obtain ⟨s1, v1, o1⟩ := fetch_s h
      exact s1.tr (div_s s1.1)
    all_goals
      obtain ⟨s1, v1, o1⟩ := fetch_s h
      unfold f_Q_doLow_j4_m f_Q_doLow_j3_m f_Q_doLow_j2_m f_R_first_j3_m f_R_first_j2_m f_R_first_j1_m; dsimp only
      rw [v1, sx_s (f_R_next_m N) o1, s1.1.2.1.2.2.1]
      first
      | exact s1.tr (jump_s s1.1 _ _)
      | (rw [hold_s s1.1]; split
         · exact s1.tr (jump_s s1.1 _ _)
         · exact s1.tr (jump_s s1.1 _ _))
  · generalize y >>> ((1 : Int32) &&& (31 : Int32)) = p at hp ⊢
    rcases hq with e | e <;> rw [e] <;> simp (decide := true) only [if_true, if_false]
    · obtain ⟨s1, v1, o1⟩ := word_s h
      rw [v1]; exact s1.tr (spair_s s1.1 hp _)
    · rw [(pair_s h hp).1]; exact hl_s h _
  · generalize y >>> ((1 : Int32) &&& (31 : Int32)) = p at hp ⊢
    have hp2 := kind4 hp
    by_cases h2 : (2 : Int32) ≤ p
    · have e2 : p = 2 ∨ p = 3 := by
        rcases hp2 with rfl | rfl | rfl | rfl
        · exact absurd h2 (by decide)
        · exact absurd h2 (by decide)
        · exact Or.inl rfl
        · exact Or.inr rfl
      have em : (if (2 : Int32) < p then (2 : Int32) else p) = 2 := by rcases e2 with rfl | rfl <;> decide
      have hh := pair_s h (p := 2) (by decide)
      rw [em, hh.1, if_pos h2]
      exact cpp_s h hh.2 hq (Or.inr (Or.inr ⟨e2, rfl⟩))
    · have e2 : p = 0 ∨ p = 1 := by
        rcases hp2 with rfl | rfl | rfl | rfl
        · exact Or.inl rfl
        · exact Or.inr rfl
        · exact absurd (by decide) h2
        · exact absurd (by decide) h2
      have em : (if (2 : Int32) < p then (2 : Int32) else p) = p := by rcases e2 with rfl | rfl <;> decide
      have hh := pair_s h hp
      rw [em, hh.1, if_neg h2]
      exact cpp_s h hh.2 hq (by rcases e2 with e | e; exact Or.inl e; exact Or.inr (Or.inl e))
  · generalize y >>> ((1 : Int32) &&& (31 : Int32)) = p at hp ⊢
    unfold f_Q_doLow_j6_m f_R_first_j9_m f_Q_doLow_j2_m f_R_first_j1_m; dsimp only
    rw [(pair_s h hp).1]
    rcases hq with e | e <;> rw [e] <;> simp (decide := true) only [if_true, if_false]
    · have s := spair_s h hp (f_R_pair_v N p + (1 : Int32)); exact s.tr (p_tick s.1 1)
    · rw [Int32.sub_eq_add_neg]; have s := spair_s h hp (f_R_pair_v N p + (-1 : Int32)); exact s.tr (p_tick s.1 1)
  · obtain ⟨s1, v1, o1⟩ := oct_s h hy
    rw [v1]; exact s1.tr (inc_s s1.1 hy o1)
  · obtain ⟨s1, v1, o1⟩ := oct_s h hy
    rw [v1]; exact s1.tr (dec_s s1.1 hy o1)
  · obtain ⟨s1, v1, o1⟩ := fetch_s h
    rw [v1]; exact s1.tr (soct_s s1.1 hy o1)
  · exact chA_s h hy
