/-! The calls, but row: they keep the relation. -/
theorem RZ.st {d : Int32} {ρ : Nat → Int32} {M N : Mem} (h : RZ d ρ M N) {a v : Int32} (ha : w16 a) (hv : oct v) : RZ d ρ (f_Y_store_m M a v) (f_R_put_m N a v) := by
  obtain ⟨⟨hm, ⟨g1, g2, g3⟩, sN, fz, dr, hd⟩, ⟨q1, q2, q3, q4, q5⟩, hb, hi⟩ := h
  refine ⟨⟨st_no1 hm sN hd ha hv, ⟨?_, ?_, ?_⟩, (so_R_put N a v sN ha hv).2, ?_, ?_, hd⟩, ⟨?_, ?_, ?_, ?_, ?_⟩, ?_, ?_⟩
  · rw [sto_c _ _ _ (by decide), g1]; exact (funext fun j => (put_n _ _ _ (Or.inr (Or.inl rfl))).symm)
  · rw [sto_c _ _ _ (by decide), put_n _ _ _ (by decide), g2]
  · rw [sto_c _ _ _ (by decide), put_n _ _ _ (by decide), g3]
  · unfold FZ; rw [put_n _ _ _ (Or.inr (Or.inl rfl))]; exact fz
  · unfold DR; rcases put_45 N a v with e | e
    · rw [e]; exact dr
    · rw [e]; decide
  · rw [sto_c _ _ _ (by decide), q1]; exact (funext fun j => (put_n _ _ _ (Or.inl rfl)).symm)
  · rw [sto_c _ _ _ (by decide), put_n _ _ _ (by decide), q2]
  · rw [sto_c _ _ _ (by decide), put_n _ _ _ (by decide), q3]
  · rw [sto_c _ _ _ (by decide), put_n _ _ _ (by decide), q4]
  · rw [sto_c _ _ _ (by decide), put_n _ _ _ (by decide), q5]
  · rw [put_n _ _ _ (by decide)]; exact hb
  · unfold IM at hi ⊢
    rw [sto_c _ _ _ (by decide), put_n _ _ _ (by decide), put_n _ _ _ (by decide), put_n _ _ _ (by decide)]; exact hi
theorem ten {a : Int32} (h1 : ¬ a < 0) (h2 : a ≤ (9 : Int32)) : a = 0 ∨ a = 1 ∨ a = 2 ∨ a = 3 ∨ a = 4 ∨ a = 5 ∨ a = 6 ∨ a = 7 ∨ a = 8 ∨ a = 9 := by
  have e0 : (0 : Int32).toInt = 0 := by decide
  have e9 : (9 : Int32).toInt = 9 := by decide
  rw [ti_lt] at h1; rw [ti_le] at h2
  obtain ⟨j, hj, rfl⟩ := of_nI (x := a) (n := 10) (by omega) (by decide)
  have q : ∀ j : Fin 10, nI j.val = 0 ∨ nI j.val = 1 ∨ nI j.val = 2 ∨ nI j.val = 3 ∨ nI j.val = 4 ∨ nI j.val = 5 ∨ nI j.val = 6 ∨ nI j.val = 7 ∨ nI j.val = 8 ∨ nI j.val = 9 := by decide
  exact q ⟨j, hj⟩
theorem reg_s {d : Int32} {ρ : Nat → Int32} {M N : Mem} (h : RS d ρ M N) {a : Int32} (h1 : ¬ a < 0) (h2 : a ≤ (9 : Int32)) : f_Q_valueOf_v M a = f_R_registerAt_v N a := by
  obtain ⟨hm, ⟨g1, g2, g3⟩, -⟩ := h
  unfold f_Q_valueOf_v f_R_registerAt_v f_Q_valueOf_j1_v f_R_registerAt_j1_v
  rw [g1, g2, g3]
  rcases ten h1 h2 with e | e | e | e | e | e | e | e | e | e <;> subst e <;> rfl
theorem RZ.r {d : Int32} {ρ : Nat → Int32} {M N : Mem} (h : RZ d ρ M N) {k : Nat} {v : Int32} (hv : oct v) (hf : k = 6 → (v &&& (15 : Int32)) = 0) : RZ d ρ (mst M 17 k v) (mst N 8 k v) := by
  obtain ⟨⟨hm, ⟨g1, g2, g3⟩, sN, fz, dr, hd⟩, ⟨q1, q2, q3, q4, q5⟩, hb, hi⟩ := h
  refine ⟨⟨(hm.m (Or.inr (by omega)) _).n (Or.inr rfl) _, ⟨?_, ?_, ?_⟩, SR.sr sN hv, ?_, dr.n (Or.inl (by decide)) _, hd⟩, ⟨?_, ?_, ?_, ?_, ?_⟩, ?_, ?_⟩
  · show (if (17 : Nat) = 17 then upd (M 17) k v else M 17) = (if (8 : Nat) = 8 then upd (N 8) k v else N 8)
    rw [if_pos rfl, if_pos rfl, g1]
  · rw [mst_no (by decide), mst_no (by decide)]; exact g2
  · rw [mst_no (by decide), mst_no (by decide)]; exact g3
  · unfold FZ
    by_cases e : k = 6
    · subst e; rw [mst_eq]; exact hf rfl
    · rw [mst_ne (Ne.symm e)]; exact fz
  · rw [mst_no (by decide), mst_no (by decide)]; exact q1
  · rw [mst_no (by decide), mst_no (by decide)]; exact q2
  · rw [mst_no (by decide), mst_no (by decide)]; exact q3
  · rw [mst_no (by decide), mst_no (by decide)]; exact q4
  · rw [mst_no (by decide), mst_no (by decide)]; exact q5
  · rw [mst_no (by decide)]; exact hb
  · unfold IM at hi ⊢; rw [mst_no (by decide), mst_no (by decide)]; exact hi
theorem RZ.ps {d : Int32} {ρ : Nat → Int32} {M N : Mem} (h : RZ d ρ M N) {v : Int32} (hv : w16 v) : RZ d ρ (mst M 5 7 v) (mst N 0 18 v) ∧ RZ d ρ (mst M 5 8 v) (mst N 0 19 v) := by
  obtain ⟨⟨hm, ⟨g1, g2, g3⟩, sN, fz, dr, hd⟩, ⟨q1, q2, q3, q4, q5⟩, hb, hi⟩ := h
  constructor
  · refine ⟨⟨(hm.m (Or.inl rfl) _).n0 (by decide) (by decide) _, ⟨?_, ?_, ?_⟩, SR.sf sN (by decide) hv, ?_, dr.n (Or.inr (by decide)) _, hd⟩, ⟨?_, ?_, ?_, ?_, ?_⟩, ?_, ?_⟩
    · rw [mst_no (by decide), mst_no (by decide)]; exact g1
    · rw [mst_eq, mst_eq]
    · rw [mst_ne (by decide), mst_ne (by decide)]; exact g3
    · unfold FZ; rw [mst_no (by decide)]; exact fz
    · rw [mst_no (by decide), mst_no (by decide)]; exact q1
    · rw [mst_ne (by decide), mst_ne (by decide)]; exact q2
    · rw [mst_ne (by decide), mst_ne (by decide)]; exact q3
    · rw [mst_ne (by decide), mst_ne (by decide)]; exact q4
    · rw [mst_ne (by decide), mst_ne (by decide)]; exact q5
    · rw [mst_ne (by decide)]; exact hb
    · unfold IM at hi ⊢; rw [mst_ne (by decide), mst_ne (by decide), mst_ne (by decide), mst_ne (by decide), mst_ne (by decide)]; exact hi
  · refine ⟨⟨(hm.m (Or.inl rfl) _).n0 (by decide) (by decide) _, ⟨?_, ?_, ?_⟩, SR.sf sN (by decide) hv, ?_, dr.n (Or.inr (by decide)) _, hd⟩, ⟨?_, ?_, ?_, ?_, ?_⟩, ?_, ?_⟩
    · rw [mst_no (by decide), mst_no (by decide)]; exact g1
    · rw [mst_ne (by decide), mst_ne (by decide)]; exact g2
    · rw [mst_eq, mst_eq]
    · unfold FZ; rw [mst_no (by decide)]; exact fz
    · rw [mst_no (by decide), mst_no (by decide)]; exact q1
    · rw [mst_ne (by decide), mst_ne (by decide)]; exact q2
    · rw [mst_ne (by decide), mst_ne (by decide)]; exact q3
    · rw [mst_ne (by decide), mst_ne (by decide)]; exact q4
    · rw [mst_ne (by decide), mst_ne (by decide)]; exact q5
    · rw [mst_ne (by decide)]; exact hb
    · unfold IM at hi ⊢; rw [mst_ne (by decide), mst_ne (by decide), mst_ne (by decide), mst_ne (by decide), mst_ne (by decide)]; exact hi
theorem set_z {d : Int32} {ρ : Nat → Int32} {M N : Mem} (h : RZ d ρ M N) {a v : Int32} (h1 : ¬ a < 0) (h2 : a ≤ (9 : Int32)) : RZ d ρ (f_Q_put_m M a v) (setR N a v) := by
  have z : ((v &&& (240 : Int32)) &&& (15 : Int32)) = 0 := by
    rw [Int32.and_assoc, show ((240 : Int32) &&& (15 : Int32)) = 0 from by decide, Int32.and_zero]
  have k : ∀ j : Nat, ¬ j = 6 → RZ d ρ (mst M 17 j (v &&& (255 : Int32))) (mst N 8 j (v &&& (255 : Int32))) := fun j hj => h.r (and_lt (by decide)) (fun e => absurd e hj)
  unfold f_Q_put_m f_Q_put_j1_m setR; dsimp only
  rcases ten h1 h2 with e | e | e | e | e | e | e | e | e | e <;> subst e <;> simp (decide := true) only [if_true, if_false]
  · exact k 7 (by decide)
  · exact h.r (and_lt (by decide)) (fun _ => z)
  · exact k 0 (by decide)
  · exact k 1 (by decide)
  · exact k 2 (by decide)
  · exact k 3 (by decide)
  · exact k 4 (by decide)
  · exact k 5 (by decide)
  · exact (h.ps (and_lt (by decide))).1
  · exact (h.ps (and_lt (by decide))).2
