/-! The registers; what an instruction is made of. -/
theorem mst_comm {N : Mem} {c i j : Nat} {v w : Int32} (h : ¬ i = j) : mst (mst N c i v) c j w = mst (mst N c j w) c i v := by
  funext a b
  by_cases ha : a = c
  · subst ha
    by_cases h1 : b = j
    · subst h1; rw [mst_eq, mst_ne (fun e => h e.symm), mst_eq]
    · rw [mst_ne h1]
      by_cases h2 : b = i
      · subst h2; rw [mst_eq, mst_eq]
      · rw [mst_ne h2, mst_ne h2, mst_ne h1]
  · rw [mst_no ha, mst_no ha, mst_no ha, mst_no ha]
theorem mst_co2 {N : Mem} {c c' i j : Nat} {v w : Int32} (h : ¬ c = c') : mst (mst N c i v) c' j w = mst (mst N c' j w) c i v := by
  funext a b
  by_cases ha : a = c
  · subst ha
    rw [mst_no h]
    by_cases h2 : b = i
    · subst h2; rw [mst_eq, mst_eq]
    · rw [mst_ne h2, mst_ne h2, mst_no h]
  · rw [mst_no ha]
    by_cases hb : a = c'
    · subst hb
      by_cases h2 : b = j
      · subst h2; rw [mst_eq, mst_eq]
      · rw [mst_ne h2, mst_ne h2, mst_no ha]
    · rw [mst_no hb, mst_no hb, mst_no ha]
def RG (M N : Mem) : Prop := M 17 = N 8 ∧ M 5 7 = N 0 18 ∧ M 5 8 = N 0 19 ∧ M 5 10 = N 0 20
def FZ (N : Mem) : Prop := (N 8 6 &&& (15 : Int32)) = 0
def RX (d : Int32) (ρ : Nat → Int32) (M N : Mem) : Prop := RM M N ∧ RG M N ∧ SR d ρ N ∧ FZ N ∧ DR N ∧ oct d
/-- what a piece of an instruction keeps -/
def KP (M N M' N' : Mem) : Prop := (∀ k : Nat, ¬ k = 7 → ¬ k = 8 → ¬ k = 10 → M' 5 k = M 5 k) ∧ (∀ k : Nat, (21 ≤ k ∧ k ≤ 24) ∨ (47 ≤ k ∧ k ≤ 49) → N' 0 k = N 0 k) ∧ M' 13 = M 13 ∧ N' 7 = N 7
def SI (d : Int32) (ρ : Nat → Int32) (M N M' N' : Mem) : Prop := RX d ρ M' N' ∧ KP M N M' N'
theorem SI.rf {d : Int32} {ρ : Nat → Int32} {M N : Mem} (h : RX d ρ M N) : SI d ρ M N M N := ⟨h, fun _ _ _ _ => rfl, fun _ _ => rfl, rfl, rfl⟩
theorem KP.tr {M N M' N' M'' N'' : Mem} (h : KP M N M' N') (g : KP M' N' M'' N'') : KP M N M'' N'' :=
  ⟨fun k h1 h2 h3 => (g.1 k h1 h2 h3).trans (h.1 k h1 h2 h3), fun k hk => (g.2.1 k hk).trans (h.2.1 k hk), g.2.2.1.trans h.2.2.1, g.2.2.2.trans h.2.2.2⟩
theorem SI.tr {d : Int32} {ρ : Nat → Int32} {M N M' N' M'' N'' : Mem} (h : SI d ρ M N M' N') (g : SI d ρ M' N' M'' N'') : SI d ρ M N M'' N'' := ⟨g.1, h.2.tr g.2⟩
theorem RM.m {M N : Mem} (h : RM M N) {c k : Nat} (hc : c = 5 ∨ (13 ≤ c ∧ c ≤ 17)) (v : Int32) : RM (mst M c k v) N :=
  ⟨h.1.c (fun c' h' => mst_no (by omega)) (fun _ _ _ => rfl), h.2.1.c (mst_no (by omega)) (fun _ _ _ => rfl), h.2.2.c (mst_no (by omega)) (mst_no (by omega)) (fun _ _ => rfl)⟩
theorem RM.n {M N : Mem} (h : RM M N) {c k : Nat} (hc : c = 7 ∨ c = 8) (v : Int32) : RM M (mst N c k v) :=
  ⟨h.1.c (fun _ _ => rfl) (fun c' h1 h2 => mst_no (by omega)), h.2.1.c rfl (fun j _ _ => by rw [mst_no (by omega)]), h.2.2.c rfl rfl (fun j _ => by rw [mst_no (by omega)])⟩
theorem RM.n0 {M N : Mem} (h : RM M N) {j : Nat} (hj : (j ≤ 7 ∨ 17 ≤ j) ∧ ¬ j = 33 ∧ ¬ j = 37 ∧ ¬ j = 45) (hp : pt.all (fun q => q.2.2 != j) = true) (v : Int32) : RM M (mst N 0 j v) :=
  ⟨h.1.c (fun _ _ => rfl) (fun c' h1 h2 => mst_no (by omega)), h.2.1.c rfl (fun i _ _ => by rw [mst_ne (by omega)]), h.2.2.n hp hj.2 v⟩
theorem DR.n {N : Mem} (h : DR N) {c j : Nat} (hj : ¬ c = 0 ∨ ¬ j = 45) (v : Int32) : DR (mst N c j v) := by
  unfold DR
  rcases hj with e | e
  · rw [mst_no (Ne.symm e)]; exact h
  · by_cases ec : c = 0
    · subst ec; rw [mst_ne (Ne.symm e)]; exact h
    · rw [mst_no (Ne.symm ec)]; exact h
theorem p_tick {d : Int32} {ρ : Nat → Int32} {M N : Mem} (h : RX d ρ M N) (x : Int32) : SI d ρ M N (mst M 5 10 (M 5 10 + x)) (mst N 0 20 (N 0 20 + x)) := by
  obtain ⟨hm, ⟨g1, g2, g3, g4⟩, sN, fz, dr, hd⟩ := h
  refine ⟨⟨(hm.m (Or.inl rfl) _).n0 (by decide) (by decide) _, ⟨?_, ?_, ?_, ?_⟩, SR.sf sN (by decide) (any_rng _), ?_, dr.n (Or.inr (by decide)) _, hd⟩, fun k _ _ h3 => mst_ne h3, fun k hk => mst_ne (by omega), mst_no (by decide), mst_no (by decide)⟩
  · rw [mst_no (by decide), mst_no (by decide)]; exact g1
  · rw [mst_ne (by decide), mst_ne (by decide)]; exact g2
  · rw [mst_ne (by decide), mst_ne (by decide)]; exact g3
  · rw [mst_eq, mst_eq, g4]
  · unfold FZ; rw [mst_no (by decide)]; exact fz
theorem p_cost {d : Int32} {ρ : Nat → Int32} {M N : Mem} (h : RX d ρ M N) (x : Int32) : SI d ρ M N (mst M 5 10 x) (mst N 0 20 x) := by
  obtain ⟨hm, ⟨g1, g2, g3, g4⟩, sN, fz, dr, hd⟩ := h
  refine ⟨⟨(hm.m (Or.inl rfl) _).n0 (by decide) (by decide) _, ⟨?_, ?_, ?_, ?_⟩, SR.sf sN (by decide) (any_rng _), ?_, dr.n (Or.inr (by decide)) _, hd⟩, fun k _ _ h3 => mst_ne h3, fun k hk => mst_ne (by omega), mst_no (by decide), mst_no (by decide)⟩
  · rw [mst_no (by decide), mst_no (by decide)]; exact g1
  · rw [mst_ne (by decide), mst_ne (by decide)]; exact g2
  · rw [mst_ne (by decide), mst_ne (by decide)]; exact g3
  · rw [mst_eq, mst_eq]
  · unfold FZ; rw [mst_no (by decide)]; exact fz
theorem p_r {d : Int32} {ρ : Nat → Int32} {M N : Mem} (h : RX d ρ M N) {k : Nat} {v : Int32} (hv : oct v) (hf : k = 6 → (v &&& (15 : Int32)) = 0) : SI d ρ M N (mst M 17 k v) (mst N 8 k v) := by
  obtain ⟨hm, ⟨g1, g2, g3, g4⟩, sN, fz, dr, hd⟩ := h
  refine ⟨⟨(hm.m (Or.inr (by omega)) _).n (Or.inr rfl) _, ⟨?_, ?_, ?_, ?_⟩, SR.sr sN hv, ?_, dr.n (Or.inl (by decide)) _, hd⟩, fun k _ _ _ => by rw [mst_no (by decide)], fun k _ => by rw [mst_no (by decide)], mst_no (by decide), mst_no (by decide)⟩
  · show (if (17 : Nat) = 17 then upd (M 17) k v else M 17) = (if (8 : Nat) = 8 then upd (N 8) k v else N 8)
    rw [if_pos rfl, if_pos rfl, g1]
  · rw [mst_no (by decide), mst_no (by decide)]; exact g2
  · rw [mst_no (by decide), mst_no (by decide)]; exact g3
  · rw [mst_no (by decide), mst_no (by decide)]; exact g4
  · unfold FZ
    by_cases e : k = 6
    · subst e; rw [mst_eq]; exact hf rfl
    · rw [mst_ne (Ne.symm e)]; exact fz
theorem p_pc {d : Int32} {ρ : Nat → Int32} {M N : Mem} (h : RX d ρ M N) {v : Int32} (hv : w16 v) : SI d ρ M N (mst M 5 8 v) (mst N 0 19 v) := by
  obtain ⟨hm, ⟨g1, g2, g3, g4⟩, sN, fz, dr, hd⟩ := h
  refine ⟨⟨(hm.m (Or.inl rfl) _).n0 (by decide) (by decide) _, ⟨?_, ?_, ?_, ?_⟩, SR.sf sN (by decide) hv, ?_, dr.n (Or.inr (by decide)) _, hd⟩, fun k _ h2 _ => mst_ne h2, fun k hk => mst_ne (by omega), mst_no (by decide), mst_no (by decide)⟩
  · rw [mst_no (by decide), mst_no (by decide)]; exact g1
  · rw [mst_ne (by decide), mst_ne (by decide)]; exact g2
  · rw [mst_eq, mst_eq]
  · rw [mst_ne (by decide), mst_ne (by decide)]; exact g4
  · unfold FZ; rw [mst_no (by decide)]; exact fz
theorem p_sp {d : Int32} {ρ : Nat → Int32} {M N : Mem} (h : RX d ρ M N) {v : Int32} (hv : w16 v) : SI d ρ M N (mst M 5 7 v) (mst N 0 18 v) := by
  obtain ⟨hm, ⟨g1, g2, g3, g4⟩, sN, fz, dr, hd⟩ := h
  refine ⟨⟨(hm.m (Or.inl rfl) _).n0 (by decide) (by decide) _, ⟨?_, ?_, ?_, ?_⟩, SR.sf sN (by decide) hv, ?_, dr.n (Or.inr (by decide)) _, hd⟩, fun k h1 _ _ => mst_ne h1, fun k hk => mst_ne (by omega), mst_no (by decide), mst_no (by decide)⟩
  · rw [mst_no (by decide), mst_no (by decide)]; exact g1
  · rw [mst_eq, mst_eq]
  · rw [mst_ne (by decide), mst_ne (by decide)]; exact g3
  · rw [mst_ne (by decide), mst_ne (by decide)]; exact g4
  · unfold FZ; rw [mst_no (by decide)]; exact fz
/-- cells that a store leaves -/
theorem dma_c {v : Int32} {c : Nat} (hc : ¬ c = 10) : ∀ (n : Nat) (x : Int32) (M : Mem), 0 ≤ x.toInt → x.toInt ≤ 160 → 160 < x.toInt + n → f_Y_store_l1_m v n x M c = M c := by
  intro n
  induction n with
  | zero => intro x M h1 h2 h3; exact absurd h3 (by omega)
  | succ n ih =>
    intro x M h1 h2 h3
    rw [f_Y_store_l1_m_s]; dsimp only
    by_cases hc2 : (160 : Int32) ≤ x
    · rw [if_pos hc2]; rfl
    · rw [if_neg hc2]
      have h160 : (160 : Int32).toInt = 160 := by decide
      rw [ti_le] at hc2
      have h7 := a1_ti (a := x) (by omega)
      rw [ih _ _ (by omega) (by omega) (by omega), mst_no hc]
theorem dma_n {v : Int32} {c : Nat} (hc : ¬ c = 5) : ∀ (n : Nat) (x : Int32) (N : Mem), 0 ≤ x.toInt → x.toInt ≤ 160 → 160 < x.toInt + n → f_R_setPort_l1_m v n x N c = N c := by
  intro n
  induction n with
  | zero => intro x M h1 h2 h3; exact absurd h3 (by omega)
  | succ n ih =>
    intro x M h1 h2 h3
    rw [f_R_setPort_l1_m_s]; dsimp only
    by_cases hc2 : (160 : Int32) ≤ x
    · rw [if_pos hc2]; rfl
    · rw [if_neg hc2]
      have h160 : (160 : Int32).toInt = 160 := by decide
      rw [ti_le] at hc2
      have h7 := a1_ti (a := x) (by omega)
      rw [ih _ _ (by omega) (by omega) (by omega), mst_no hc]
theorem sto_c (M : Mem) (a v : Int32) {c : Nat} (hc : c = 5 ∨ c = 6 ∨ (13 ≤ c ∧ c ≤ 17)) : f_Y_store_m M a v c = M c := by
  have j2 : f_Y_store_j2_m M a v c = M c := by
    unfold f_Y_store_j2_m f_Y_store_j1_m; dsimp only
    split
    · rfl
    · split
      · rw [dma_c (by omega) 161 0 _ (by decide) (by decide) (by decide), stp_c _ _ _ (by omega)]
      · rw [stp_c _ _ _ (by omega)]
  unfold f_Y_store_m f_Y_store_j1_m f_K_storeRam_m f_K_storeRam_j2_m f_K_storeRam_j1_m; dsimp only
  repeat' split
  all_goals first | exact j2 | rw [mst_no (by omega)] | rw [ctl_c _ _ _ (by omega)] | rfl
theorem ite_at {c : Prop} [Decidable c] {A B : Mem} {i j : Nat} {z : Int32} (ha : A i j = z) (hb : B i j = z) : (if c then A else B) i j = z := by
  split
  · exact ha
  · exact hb
/-- places of the reference that a put leaves -/
theorem put_n (N : Mem) (a v : Int32) {c j : Nat} (hc : c = 7 ∨ c = 8 ∨ (c = 0 ∧ ((17 ≤ j ∧ j < 25) ∨ (47 ≤ j ∧ j ≤ 49)))) : f_R_put_m N a v c j = N c j := by
  have c0 : ∀ (X : Mem) (i k : Nat) (x : Int32), (1 ≤ i ∧ i ≤ 6) → mst X i k x c j = X c j := fun X i k x h => by rw [mst_no (by omega)]
  have sp : f_R_setPort_m N a v c j = N c j := by
    have key : ∀ (X : Mem) (k : Nat) (x : Int32), 25 ≤ k → k ≤ 46 → mst X 0 k x c j = X c j := fun X k x h1 h2 => by
      by_cases e : c = 0
      · subst e; rw [mst_ne (by omega)]
      · rw [mst_no e]
    by_cases hD : a = (65350 : Int32)
    · subst hD
      have e2 : f_R_setPort_m N (65350 : Int32) v = f_R_setPort_l1_m v 161 (0 : Int32) (mst N 0 39 v) := by
        unfold f_R_setPort_m; simp (decide := true) only [if_false, if_true]
      rw [e2, dma_n (by omega) 161 0 _ (by decide) (by decide) (by decide), key _ _ _ (by decide) (by decide)]
    · by_cases e : c = 0 ∧ 47 ≤ j
      · obtain ⟨e0, e1⟩ := e
        subst e0
        unfold f_R_setPort_m f_R_setPort_j1_m; dsimp only
        simp only [if_neg hD]
        repeat' (first | with_reducible refine ite_at ?_ ?_ | with_reducible rfl | rw [key _ _ _ (by decide) (by decide)])
      · exact stp_n N a v hD (by omega)
  have j2 : f_R_put_j2_m N a v c j = N c j := by
    unfold f_R_put_j2_m f_R_put_j1_m; dsimp only
    split
    · rfl
    · exact sp
  unfold f_R_put_m f_R_put_j1_m f_R_put_j3_m f_R_put_j1_m; dsimp only
  repeat' split
  all_goals first | exact j2 | exact c0 _ _ _ _ (by decide) | exact ctl_n _ _ _ (by omega) | rfl
theorem put_45 (N : Mem) (a v : Int32) : f_R_put_m N a v 0 45 = N 0 45 ∨ f_R_put_m N a v 0 45 = 0 := by
  have c0 : ∀ (X : Mem) (i k : Nat) (x : Int32), (1 ≤ i ∧ i ≤ 6) → mst X i k x 0 45 = X 0 45 := fun X i k x h => by rw [mst_no (by omega)]
  have sp : f_R_setPort_m N a v 0 45 = N 0 45 ∨ f_R_setPort_m N a v 0 45 = 0 := by
    by_cases hD : a = (65350 : Int32)
    · subst hD
      have e2 : f_R_setPort_m N (65350 : Int32) v = f_R_setPort_l1_m v 161 (0 : Int32) (mst N 0 39 v) := by
        unfold f_R_setPort_m; simp (decide := true) only [if_false, if_true]
      rw [e2, dma_n (by omega) 161 0 _ (by decide) (by decide) (by decide), mst_ne (by decide)]; exact Or.inl rfl
    · by_cases h64 : a = (65344 : Int32)
      · subst h64
        unfold f_R_setPort_m f_R_setPort_j1_m; simp (decide := true) only [if_false, if_true]
        split
        · right; rw [mst_ne (by decide), mst_eq]
        · left; rw [mst_ne (by decide)]
      · left
        unfold f_R_setPort_m f_R_setPort_j1_m; dsimp only
        simp only [if_neg hD, if_neg h64]
        repeat' (first | with_reducible refine ite_at ?_ ?_ | with_reducible rfl | rw [mst_ne (by decide)])
  have j2 : f_R_put_j2_m N a v 0 45 = N 0 45 ∨ f_R_put_j2_m N a v 0 45 = 0 := by
    unfold f_R_put_j2_m f_R_put_j1_m; dsimp only
    split
    · exact Or.inl rfl
    · exact sp
  unfold f_R_put_m f_R_put_j1_m f_R_put_j3_m f_R_put_j1_m; dsimp only
  repeat' split
  all_goals first | exact j2 | exact Or.inl (c0 _ _ _ _ (by decide)) | exact Or.inl (ctl_n _ _ _ (by omega)) | exact Or.inl rfl
theorem p_st {d : Int32} {ρ : Nat → Int32} {M N : Mem} (h : RX d ρ M N) {a v : Int32} (ha : w16 a) (hv : oct v) : SI d ρ M N (f_Y_store_m M a v) (f_R_put_m N a v) := by
  obtain ⟨hm, ⟨g1, g2, g3, g4⟩, sN, fz, dr, hd⟩ := h
  refine ⟨⟨st_no1 hm sN hd ha hv, ⟨?_, ?_, ?_, ?_⟩, (so_R_put N a v sN ha hv).2, ?_, ?_, hd⟩, fun k _ _ _ => by rw [sto_c _ _ _ (by decide)], fun k hk => put_n _ _ _ (by omega), sto_c _ _ _ (by decide), funext fun j => put_n _ _ _ (Or.inl rfl)⟩
  · rw [sto_c _ _ _ (by decide), g1]; exact (funext fun j => (put_n _ _ _ (Or.inr (Or.inl rfl))).symm)
  · rw [sto_c _ _ _ (by decide), put_n _ _ _ (by decide), g2]
  · rw [sto_c _ _ _ (by decide), put_n _ _ _ (by decide), g3]
  · rw [sto_c _ _ _ (by decide), put_n _ _ _ (by decide), g4]
  · unfold FZ; rw [put_n _ _ _ (Or.inr (Or.inl rfl))]; exact fz
  · unfold DR; rcases put_45 N a v with e | e
    · rw [e]; exact dr
    · rw [e]; decide
