/-! The end of a step; interrupts; the step. -/
theorem pass_z {d : Int32} {ρ : Nat → Int32} {M N : Mem} (h : RS d ρ M N) (f : RF M N) (im : IM M N) (h23 : N 0 23 = 0) {t : Int32} (ht : 0 ≤ t.toInt) : RZ d ρ (f_P_pass_m (mst M 5 0 (M 5 0 + t)) t) (cycN t.toInt.toNat N) ∧ cycN t.toInt.toNat N 0 23 = 0 ∧ (f_P_pass_m (mst M 5 0 (M 5 0 + t)) t) 5 0 = M 5 0 + t := by
  obtain ⟨hm, ⟨g1, g2, g3⟩, sN, fz, dr, hd⟩ := h
  obtain ⟨q1, q2, q3, q4, q5⟩ := f
  rw [pass_m _ ht]
  obtain ⟨r1, r2, r3, r4, r5, r6⟩ := cycs t.toInt.toNat (mst M 5 0 (M 5 0 + t)) N (hm.m (Or.inl rfl) _) sN dr
  have et : nI t.toInt.toNat = t := by
    apply ti_inj
    have h9 := any_rng t
    rw [nI_toInt (by omega)]; omega
  rw [et] at r5
  have k0 : ∀ j : Nat, (j = 18 ∨ j = 19 ∨ j = 21 ∨ j = 22 ∨ j = 23 ∨ j = 24 ∨ j = 49) → cycN t.toInt.toNat N 0 j = N 0 j := fun j hj => r4 0 j (Or.inr (by omega)) (Or.inr (by omega))
  have kc : ∀ c : Nat, ¬ c = 0 → cycN t.toInt.toNat N c = N c := fun c hc => funext fun j => r4 c j (Or.inl hc) (Or.inl hc)
  have m5 : ∀ k : Nat, ¬ k = 0 → (passN t.toInt.toNat (mst M 5 0 (M 5 0 + t))) 5 k = M 5 k := fun k hk => by rw [r6 5 (by decide) (by decide), mst_ne hk]
  have mc : ∀ c : Nat, ¬ c = 2 → ¬ c = 8 → ¬ c = 5 → (passN t.toInt.toNat (mst M 5 0 (M 5 0 + t))) c = M c := fun c h1 h2 h3 => by rw [r6 c h1 h2, mst_no h3]
  have m0 : (passN t.toInt.toNat (mst M 5 0 (M 5 0 + t))) 5 0 = M 5 0 + t := by rw [r6 5 (by decide) (by decide), mst_eq]
  refine ⟨⟨⟨r1, ⟨?_, ?_, ?_⟩, r2, ?_, r3, hd⟩, ⟨?_, ?_, ?_, ?_, ?_⟩, ?_, ?_⟩, ?_, m0⟩
  · rw [mc 17 (by decide) (by decide) (by decide), kc 8 (by decide)]; exact g1
  · rw [m5 7 (by decide), k0 18 (by decide)]; exact g2
  · rw [m5 8 (by decide), k0 19 (by decide)]; exact g3
  · unfold FZ; rw [kc 8 (by decide)]; exact fz
  · rw [mc 13 (by decide) (by decide) (by decide), kc 7 (by decide)]; exact q1
  · rw [m0, r5, q2]
  · rw [m5 2 (by decide), k0 49 (by decide)]; exact q3
  · rw [m5 4 (by decide), k0 22 (by decide)]; exact q4
  · rw [m5 5 (by decide), k0 23 (by decide)]; exact q5
  · rw [k0 23 (by decide), h23]; exact Or.inl rfl
  · intro _
    unfold IM at im ⊢
    rw [m5 3 (by decide), m5 9 (by decide), k0 21 (by decide), k0 24 (by decide)]; exact im
  · rw [k0 23 (by decide)]; exact h23
/-- what a step comes to -/
def STP (d : Int32) (ρ : Nat → Int32) (M M' : Mem) (v : Int32) (N' : Mem) : Prop := (v = 0 ∧ RZ d ρ M' N' ∧ N' 0 23 = 1) ∨ (v = 1 ∧ 0 ≤ (N' 0 20).toInt ∧ RZ d ρ M' (cycN (N' 0 20).toInt.toNat N') ∧ cycN (N' 0 20).toInt.toNat N' 0 23 = 0 ∧ M' 5 0 = M 5 0 + N' 0 20)
theorem imS_k {s i : Int32} {N : Mem} {c j : Nat} (h : ¬ c = 0 ∨ ¬ j = 21) : imS s i N c j = N c j := by
  unfold imS; repeat' split
  · rfl
  · rfl
  · rcases h with h | h
    · rw [mst_no h]
    · by_cases e : c = 0
      · subst e; rw [mst_ne h]
      · rw [mst_no e]
theorem j2_eq {s i : Int32} {N : Mem} (h : N 0 23 = 0) : f_R_step_j2_v s i N = 1 ∧ f_R_step_j2_m s i N = mst (imS s i N) 0 48 ((imS s i N) 0 48 + (1 : Int32)) := by
  unfold f_R_step_j2_v f_R_step_j2_m f_R_step_j3_v f_R_step_j3_m imS; dsimp only
  rw [if_pos h, if_pos h]
  constructor
  · repeat' split
    all_goals rfl
  · repeat' split
    all_goals rfl
theorem mid_z {d : Int32} {ρ : Nat → Int32} {s i : Int32} {M N : Mem} (h : MID d ρ s i M N) {M0 : Mem} (e0 : M 5 0 = M0 5 0) : STP d ρ M0 (f_Q_finish_m M) (f_R_step_j2_v s i N) (f_R_step_j2_m s i N) := by
  obtain ⟨hx, hf, hb, hl⟩ := h
  by_cases h23 : N 0 23 = 0
  · right
    obtain ⟨ht, im⟩ := hl h23
    obtain ⟨ev, em⟩ := j2_eq (s := s) (i := i) h23
    have i5 : M 5 5 = 0 := hf.2.2.2.2.trans h23
    have ef : f_Q_finish_m M = f_P_pass_m (mst (mst M 5 1 (M 5 1 + (1 : Int32))) 5 0 ((mst M 5 1 (M 5 1 + (1 : Int32))) 5 0 + M 5 10)) (M 5 10) := by
      unfold f_Q_finish_m; dsimp only
      rw [if_pos i5]; simp only [mst_ne (show ¬ 10 = 0 by decide), mst_ne (show ¬ 10 = 1 by decide)]
    have n20 : f_R_step_j2_m s i N 0 20 = M 5 10 := by
      rw [em, mst_ne (by decide), imS_k (Or.inr (by decide))]; exact hx.2.1.2.2.2.symm
    have hN : RS d ρ M (imS s i N) := by
      unfold imS; repeat' split
      · exact hx.s
      · exact hx.s
      · exact hx.s.n (by decide) (by decide) (by decide) (any_rng _)
    have hS : RS d ρ (mst M 5 1 (M 5 1 + (1 : Int32))) (mst (imS s i N) 0 48 ((imS s i N) 0 48 + (1 : Int32))) := (hN.m (by decide) _).n (by decide) (by decide) (by decide) (any_rng _)
    have fN : ∀ j : Nat, ¬ j = 48 → (¬ j = 21) → mst (imS s i N) 0 48 ((imS s i N) 0 48 + (1 : Int32)) 0 j = N 0 j := fun j h1 h2 => by rw [mst_ne h1, imS_k (Or.inr h2)]
    have hF : RF (mst M 5 1 (M 5 1 + (1 : Int32))) (mst (imS s i N) 0 48 ((imS s i N) 0 48 + (1 : Int32))) := by
      obtain ⟨q1, q2, q3, q4, q5⟩ := hf
      refine ⟨?_, ?_, ?_, ?_, ?_⟩
      · rw [mst_no (by decide), mst_no (by decide), q1]; funext j; exact (imS_k (Or.inl (by decide))).symm
      · rw [mst_ne (by decide), fN 47 (by decide) (by decide)]; exact q2
      · rw [mst_ne (by decide), fN 49 (by decide) (by decide)]; exact q3
      · rw [mst_ne (by decide), fN 22 (by decide) (by decide)]; exact q4
      · rw [mst_ne (by decide), fN 23 (by decide) (by decide)]; exact q5
    have hI : IM (mst M 5 1 (M 5 1 + (1 : Int32))) (mst (imS s i N) 0 48 ((imS s i N) 0 48 + (1 : Int32))) := by
      unfold IM at im ⊢
      rw [mst_ne (by decide), mst_ne (by decide), mst_ne (by decide), mst_ne (by decide)]; exact im
    have z := pass_z hS hF hI (by rw [fN 23 (by decide) (by decide)]; exact h23) ht
    refine ⟨ev, by rw [n20]; exact ht, ?_⟩
    rw [n20, em, ef]
    refine ⟨z.1, z.2.1, ?_⟩
    rw [z.2.2, mst_ne (by decide), e0]
  · left
    have h1 : N 0 23 = 1 := by rcases hb with b | b; exact absurd b h23; exact b
    have i5 : ¬ M 5 5 = 0 := by rw [hf.2.2.2.2, h1]; decide
    have ef : f_Q_finish_m M = M := by unfold f_Q_finish_m; dsimp only; rw [if_neg i5]
    have em : f_R_step_j2_m s i N = mst N 0 20 (0 : Int32) := by unfold f_R_step_j2_m; rw [if_neg h23]
    have ev : f_R_step_j2_v s i N = 0 := by unfold f_R_step_j2_v; rw [if_neg h23]
    rw [ef, em]
    obtain ⟨q1, q2, q3, q4, q5⟩ := hf
    refine ⟨ev, ⟨hx.s.n (by decide) (by decide) (by decide) (any_rng _), ⟨?_, ?_, ?_, ?_, ?_⟩, ?_, ?_⟩, ?_⟩
    · rw [mst_no (by decide)]; exact q1
    · rw [mst_ne (by decide)]; exact q2
    · rw [mst_ne (by decide)]; exact q3
    · rw [mst_ne (by decide)]; exact q4
    · rw [mst_ne (by decide)]; exact q5
    · rw [mst_ne (by decide)]; exact hb
    · rw [mst_ne (by decide)]; exact fun e => absurd e h23
    · rw [mst_ne (by decide)]; exact h1
theorem if_d : ∀ (j : Fin 32) (n : Fin 5), ((nI j.val &&& (((1 : Int32) <<< (nI n.val &&& (31 : Int32))) ^^^ (-1 : Int32))) &&& (31 : Int32)) = (nI j.val &&& (((1 : Int32) <<< (nI n.val &&& (31 : Int32))) ^^^ (-1 : Int32))) ∧ oct (nI j.val &&& (((1 : Int32) <<< (nI n.val &&& (31 : Int32))) ^^^ (-1 : Int32))) ∧ w16 ((64 : Int32) + ((8 : Int32) * nI n.val)) := by decide +kernel
theorem p_if {d : Int32} {ρ : Nat → Int32} {M N : Mem} (h : RX d ρ M N) {n : Nat} (hn : n < 5) : SI d ρ M N (mst M 8 15 ((M 8 15) &&& (((1 : Int32) <<< (nI n &&& (31 : Int32))) ^^^ (-1 : Int32)))) (mst N 0 31 ((N 0 31) &&& (((1 : Int32) <<< (nI n &&& (31 : Int32))) ^^^ (-1 : Int32)))) ∧ w16 ((64 : Int32) + ((8 : Int32) * nI n)) := by
  have e8 : M 8 15 = N 0 31 := h.1.2.2.g (by decide)
  have r31 : 0 ≤ (N 0 31).toInt ∧ (N 0 31).toInt < 32 := h.2.2.1.f 31
  obtain ⟨j, hj, ej⟩ := of_nI (n := 32) r31 (by decide)
  have q := if_d ⟨j, hj⟩ ⟨n, hn⟩
  rw [show nI ((⟨j, hj⟩ : Fin 32) : Nat) = N 0 31 from ej.symm, show nI ((⟨n, hn⟩ : Fin 5) : Nat) = nI n from rfl] at q
  rw [e8]
  generalize (N 0 31) &&& (((1 : Int32) <<< (nI n &&& (31 : Int32))) ^^^ (-1 : Int32)) = v at q ⊢
  have s := p_st h (a := (65295 : Int32)) (v := v) (by decide) q.2.1
  have e1 : f_Y_store_m M (65295 : Int32) v = mst M 8 15 v := by
    unfold f_Y_store_m f_Y_store_j2_m f_Y_store_j1_m f_P_store_m f_P_store_j1_m; simp (decide := true) only [if_true, if_false]
    rw [q.1]
  have e2 : f_R_put_m N (65295 : Int32) v = mst N 0 31 v := by
    unfold f_R_put_m f_R_put_j1_m f_R_put_j3_m f_R_put_j2_m f_R_put_j1_m f_R_setPort_m f_R_setPort_j1_m; simp (decide := true) only [if_true, if_false]
    rw [q.1]
  rw [e1, e2] at s
  exact ⟨s, q.2.2⟩
