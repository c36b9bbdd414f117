/-! Interrupts. -/
theorem low_d : ∀ w : Fin 32, ¬ w.val = 0 → (((nI w.val >>> ((0 : Int32) &&& (31 : Int32))) &&& (1 : Int32)) = 0 → ((nI w.val >>> ((1 : Int32) &&& (31 : Int32))) &&& (1 : Int32)) = 0 → ((nI w.val >>> ((2 : Int32) &&& (31 : Int32))) &&& (1 : Int32)) = 0 → ((nI w.val >>> ((3 : Int32) &&& (31 : Int32))) &&& (1 : Int32)) = 0 → ¬ ((nI w.val >>> ((4 : Int32) &&& (31 : Int32))) &&& (1 : Int32)) = 0) := by decide +kernel
/-- the reference's interrupt number n, without its count of instructions -/
def intR (n : Int32) (N : Mem) : Mem :=
  let A : Mem := mst (mst N 0 21 (0 : Int32)) 0 24 (0 : Int32)
  let B : Mem := mst A 0 31 ((A 0 31) &&& (((1 : Int32) <<< (n &&& (31 : Int32))) ^^^ (-1 : Int32)))
  let C : Mem := mst (mst (f_R_push_m B (B 0 19)) 0 19 ((64 : Int32) + ((8 : Int32) * n))) 0 20 (5 : Int32)
  mst C 0 49 ((C 0 49) + (1 : Int32))
theorem num_s {w : Int32} (hw : 0 ≤ w.toInt ∧ w.toInt < 32) (h0 : ¬ w = 0) (M N : Mem) : ∃ n : Nat, n < 5 ∧ f_Q_takeInterrupt_m M w = f_Q_takeInterrupt_j1_m M (nI n) ∧ f_R_step_l1_v w N 33 0 = 1 ∧ f_R_step_l1_m w N 33 0 = mst (intR (nI n) N) 0 48 ((intR (nI n) N) 0 48 + (1 : Int32)) := by
  obtain ⟨j, hj, ej⟩ := of_nI (n := 32) hw (by decide)
  have q := low_d ⟨j, hj⟩ (fun e => h0 (by rw [ej]; show nI j = 0; rw [show j = 0 from e]; rfl))
  rw [show nI ((⟨j, hj⟩ : Fin 32) : Nat) = w from ej.symm] at q
  have a1 : (0 : Int32) + (1 : Int32) = 1 := by decide
  have a2 : (1 : Int32) + (1 : Int32) = 2 := by decide
  have a3 : (2 : Int32) + (1 : Int32) = 3 := by decide
  have a4 : (3 : Int32) + (1 : Int32) = 4 := by decide
  unfold f_Q_takeInterrupt_m
  by_cases b0 : ((w >>> ((0 : Int32) &&& (31 : Int32))) &&& (1 : Int32)) = 0
  · by_cases b1 : ((w >>> ((1 : Int32) &&& (31 : Int32))) &&& (1 : Int32)) = 0
    · by_cases b2 : ((w >>> ((2 : Int32) &&& (31 : Int32))) &&& (1 : Int32)) = 0
      · by_cases b3 : ((w >>> ((3 : Int32) &&& (31 : Int32))) &&& (1 : Int32)) = 0
        · have b4 := q b0 b1 b2 b3
          refine ⟨4, by decide, ?_, ?_, ?_⟩
          · rw [f_Q_takeInterrupt_l1_m_s, if_neg (by decide), if_pos b0]; dsimp only; rw [a1, f_Q_takeInterrupt_l1_m_s, if_neg (by decide), if_pos b1]; dsimp only; rw [a2, f_Q_takeInterrupt_l1_m_s, if_neg (by decide), if_pos b2]; dsimp only; rw [a3, f_Q_takeInterrupt_l1_m_s, if_neg (by decide), if_pos b3]; dsimp only; rw [a4, f_Q_takeInterrupt_l1_m_s, if_pos (by decide)]; rfl
          · rw [f_R_step_l1_v_s, if_pos b0]; dsimp only; rw [a1, f_R_step_l1_v_s, if_pos b1]; dsimp only; rw [a2, f_R_step_l1_v_s, if_pos b2]; dsimp only; rw [a3, f_R_step_l1_v_s, if_pos b3]; dsimp only; rw [a4, f_R_step_l1_v_s, if_neg b4]
          · rw [f_R_step_l1_m_s, if_pos b0]; dsimp only; rw [a1, f_R_step_l1_m_s, if_pos b1]; dsimp only; rw [a2, f_R_step_l1_m_s, if_pos b2]; dsimp only; rw [a3, f_R_step_l1_m_s, if_pos b3]; dsimp only; rw [a4, f_R_step_l1_m_s, if_neg b4]; rfl
        · refine ⟨3, by decide, ?_, ?_, ?_⟩
          · rw [f_Q_takeInterrupt_l1_m_s, if_neg (by decide), if_pos b0]; dsimp only; rw [a1, f_Q_takeInterrupt_l1_m_s, if_neg (by decide), if_pos b1]; dsimp only; rw [a2, f_Q_takeInterrupt_l1_m_s, if_neg (by decide), if_pos b2]; dsimp only; rw [a3, f_Q_takeInterrupt_l1_m_s, if_neg (by decide), if_neg b3]; rfl
          · rw [f_R_step_l1_v_s, if_pos b0]; dsimp only; rw [a1, f_R_step_l1_v_s, if_pos b1]; dsimp only; rw [a2, f_R_step_l1_v_s, if_pos b2]; dsimp only; rw [a3, f_R_step_l1_v_s, if_neg b3]
          · rw [f_R_step_l1_m_s, if_pos b0]; dsimp only; rw [a1, f_R_step_l1_m_s, if_pos b1]; dsimp only; rw [a2, f_R_step_l1_m_s, if_pos b2]; dsimp only; rw [a3, f_R_step_l1_m_s, if_neg b3]; rfl
      · refine ⟨2, by decide, ?_, ?_, ?_⟩
        · rw [f_Q_takeInterrupt_l1_m_s, if_neg (by decide), if_pos b0]; dsimp only; rw [a1, f_Q_takeInterrupt_l1_m_s, if_neg (by decide), if_pos b1]; dsimp only; rw [a2, f_Q_takeInterrupt_l1_m_s, if_neg (by decide), if_neg b2]; rfl
        · rw [f_R_step_l1_v_s, if_pos b0]; dsimp only; rw [a1, f_R_step_l1_v_s, if_pos b1]; dsimp only; rw [a2, f_R_step_l1_v_s, if_neg b2]
        · rw [f_R_step_l1_m_s, if_pos b0]; dsimp only; rw [a1, f_R_step_l1_m_s, if_pos b1]; dsimp only; rw [a2, f_R_step_l1_m_s, if_neg b2]; rfl
    · refine ⟨1, by decide, ?_, ?_, ?_⟩
      · rw [f_Q_takeInterrupt_l1_m_s, if_neg (by decide), if_pos b0]; dsimp only; rw [a1, f_Q_takeInterrupt_l1_m_s, if_neg (by decide), if_neg b1]; rfl
      · rw [f_R_step_l1_v_s, if_pos b0]; dsimp only; rw [a1, f_R_step_l1_v_s, if_neg b1]
      · rw [f_R_step_l1_m_s, if_pos b0]; dsimp only; rw [a1, f_R_step_l1_m_s, if_neg b1]; rfl
  · refine ⟨0, by decide, ?_, ?_, ?_⟩
    · rw [f_Q_takeInterrupt_l1_m_s, if_neg (by decide), if_neg b0]; rfl
    · rw [f_R_step_l1_v_s, if_neg b0]
    · rw [f_R_step_l1_m_s, if_neg b0]; rfl
theorem int_s {d : Int32} {ρ : Nat → Int32} {M N : Mem} (h : RX d ρ M N) (f : RF M N) (h9 : M 5 9 = 0) (h23 : N 0 23 = 0) {n : Nat} (hn : n < 5) : MID d ρ 0 0 (f_Q_takeInterrupt_j1_m M (nI n)) (intR (nI n) N) ∧ (f_Q_takeInterrupt_j1_m M (nI n)) 5 0 = M 5 0 ∧ (intR (nI n) N) 0 23 = 0 := by
  have hA : RX d ρ (mst M 5 3 (0 : Int32)) (mst (mst N 0 21 (0 : Int32)) 0 24 (0 : Int32)) := ((h.m (by decide) (by decide) _).n (j := 21) (v := 0) (by decide) (by decide) (by decide) (by decide) (any_rng _)).n (by decide) (by decide) (by decide) (by decide) (any_rng _)
  obtain ⟨s1, w⟩ := p_if hA hn
  have f0 : RF (mst M 5 3 (0 : Int32)) (mst (mst N 0 21 (0 : Int32)) 0 24 (0 : Int32)) := by
    obtain ⟨q1, q2, q3, q4, q5⟩ := f
    refine ⟨?_, ?_, ?_, ?_, ?_⟩
    · rw [mst_no (by decide), mst_no (by decide), mst_no (by decide)]; exact q1
    · rw [mst_ne (by decide), mst_ne (by decide), mst_ne (by decide)]; exact q2
    · rw [mst_ne (by decide), mst_ne (by decide), mst_ne (by decide)]; exact q3
    · rw [mst_ne (by decide), mst_ne (by decide), mst_ne (by decide)]; exact q4
    · rw [mst_ne (by decide), mst_ne (by decide), mst_ne (by decide)]; exact q5
  have x3 : (mst M 5 3 (0 : Int32)) 5 3 = 0 := mst_eq
  have x0 : (mst M 5 3 (0 : Int32)) 5 0 = M 5 0 := mst_ne (by decide)
  have x9 : (mst M 5 3 (0 : Int32)) 5 9 = 0 := by rw [mst_ne (by decide)]; exact h9
  have y21 : (mst (mst N 0 21 (0 : Int32)) 0 24 (0 : Int32)) 0 21 = 0 := by rw [mst_ne (by decide), mst_eq]
  have y24 : (mst (mst N 0 21 (0 : Int32)) 0 24 (0 : Int32)) 0 24 = 0 := mst_eq
  have y23 : (mst (mst N 0 21 (0 : Int32)) 0 24 (0 : Int32)) 0 23 = 0 := by rw [mst_ne (by decide), mst_ne (by decide)]; exact h23
  unfold f_Q_takeInterrupt_j1_m intR; dsimp only
  generalize mst M 5 3 (0 : Int32) = MA at *
  generalize mst (mst N 0 21 (0 : Int32)) 0 24 (0 : Int32) = NA at *
  generalize mst MA 8 15 ((MA 8 15) &&& (((1 : Int32) <<< (nI n &&& (31 : Int32))) ^^^ (-1 : Int32))) = MB at *
  generalize mst NA 0 31 ((NA 0 31) &&& (((1 : Int32) <<< (nI n &&& (31 : Int32))) ^^^ (-1 : Int32))) = NB at *
  have s2 := s1.tr (push_s s1.1 s1.1.pc)
  have s3 := s2.tr (p_pc s2.1 w)
  have s4 := s3.tr (p_cost s3.1 5)
  rw [mst_comm (c := 0) (i := 20) (j := 19) (by decide), mst_mst] at s4
  rw [s1.1.2.1.2.2.1]
  have p4 := f0.si s4
  obtain ⟨x4, k1, k2, k3, k4⟩ := s4
  have e20 : mst (mst (f_Q_push_m MB (NB 0 19)) 5 8 ((64 : Int32) + ((8 : Int32) * nI n))) 5 10 (5 : Int32) 5 10 = 5 := mst_eq
  generalize mst (mst (f_Q_push_m MB (NB 0 19)) 5 8 ((64 : Int32) + ((8 : Int32) * nI n))) 5 10 (5 : Int32) = MC at *
  generalize mst (mst (f_R_push_m NB (NB 0 19)) 0 19 ((64 : Int32) + ((8 : Int32) * nI n))) 0 20 (5 : Int32) = NC at *
  obtain ⟨q1, q2, q3, q4, q5⟩ := p4
  refine ⟨⟨(x4.m (by decide) (by decide) _).n (by decide) (by decide) (by decide) (by decide) (any_rng _), ⟨?_, ?_, ?_, ?_, ?_⟩, ?_, ?_⟩, by rw [mst_ne (by decide), k1 0 (by decide) (by decide) (by decide), x0], by rw [mst_ne (by decide), k2 23 (by decide), y23]⟩
  · rw [mst_no (by decide), mst_no (by decide)]; exact q1
  · rw [mst_ne (by decide), mst_ne (by decide)]; exact q2
  · rw [mst_eq, mst_eq, q3]
  · rw [mst_ne (by decide), mst_ne (by decide)]; exact q4
  · rw [mst_ne (by decide), mst_ne (by decide)]; exact q5
  · rw [mst_ne (by decide), k2 23 (by decide), y23]; exact Or.inl rfl
  · intro _
    refine ⟨by rw [mst_ne (by decide), e20]; decide, ?_⟩
    unfold IM imS
    rw [if_pos rfl, mst_ne (by decide), mst_ne (by decide), mst_ne (by decide), mst_ne (by decide), k2 21 (by decide), k2 24 (by decide), k1 3 (by decide) (by decide) (by decide), k1 9 (by decide) (by decide) (by decide), y21, y24, x3, x9]
    exact ⟨Or.inl rfl, Or.inl rfl, rfl, rfl⟩
/-- a step -/
theorem step_s {d : Int32} {ρ : Nat → Int32} {M N : Mem} (h : RZ d ρ M N) (h23 : N 0 23 = 0) : STP d ρ M (f_Q_step_m M) (f_R_step_v N) (f_R_step_m N) := by
  obtain ⟨hs, hf, hb, hi⟩ := h
  have im := hi h23
  have ew : f_P_waiting_v M = ((N 0 32) &&& (N 0 31)) &&& (31 : Int32) := by
    unfold f_P_waiting_v; rw [hs.1.2.2.g (show (8, 255, 32) ∈ pt by decide), hs.1.2.2.g (show (8, 15, 31) ∈ pt by decide)]
  have hw : 0 ≤ (((N 0 32) &&& (N 0 31)) &&& (31 : Int32)).toInt ∧ (((N 0 32) &&& (N 0 31)) &&& (31 : Int32)).toInt < 32 := and_lt (by decide)
  unfold f_Q_step_m f_R_step_m f_R_step_v f_Q_step_j1_m; dsimp only
  rw [ew]
  generalize ((N 0 32) &&& (N 0 31)) &&& (31 : Int32) = w at hw ⊢
  clear ew
  have x0 := hs.x 0
  -- the rest, out of a state with its time at 0
  have rest : ∀ (A B : Mem), RX d ρ A B → RF A B → IM A B → B 0 23 = 0 → A 5 10 = 0 → A 5 0 = M 5 0 → STP d ρ M (f_Q_step_j3_m A) (f_R_step_j1_v B) (f_R_step_j1_m B) := by
    intro A B hx f im b23 t0 e0
    unfold f_Q_step_j3_m f_Q_step_j5_m
    by_cases hh : B 0 22 = 0
    · have ha : A 5 4 = 0 := f.2.2.2.1.trans hh
      rw [if_pos ha]
      obtain ⟨i1, i2, i3, i4⟩ := im
      have go : ∀ x : Int32, x = (if B 0 21 = 0 then B 0 24 else 1) → STP d ρ M (f_Q_step_j4_m A x) (f_R_step_j1_v B) (f_R_step_j1_m B) := by
        intro x ex
        have hx2 : RX d ρ (mst (mst A 5 3 x) 5 9 (0 : Int32)) (mst B 0 24 (0 : Int32)) := ((hx.m (by decide) (by decide) _).m (by decide) (by decide) _).n (by decide) (by decide) (by decide) (by decide) (any_rng _)
        have p : PF (B 0 24) (mst (mst A 5 3 x) 5 9 (0 : Int32)) (mst B 0 24 (0 : Int32)) := by
          obtain ⟨q1, q2, q3, q4, q5⟩ := f
          refine ⟨⟨?_, ?_, ?_, ?_, ?_⟩, ?_, ?_, mst_eq, mst_eq, i2, ?_, ?_⟩
          · rw [mst_no (by decide), mst_no (by decide), mst_no (by decide)]; exact q1
          · rw [mst_ne (by decide), mst_ne (by decide), mst_ne (by decide)]; exact q2
          · rw [mst_ne (by decide), mst_ne (by decide), mst_ne (by decide)]; exact q3
          · rw [mst_ne (by decide), mst_ne (by decide), mst_ne (by decide)]; exact q4
          · rw [mst_ne (by decide), mst_ne (by decide), mst_ne (by decide)]; exact q5
          · rw [mst_ne (by decide)]; exact hh
          · rw [mst_ne (by decide)]; exact b23
          · rw [mst_ne (by decide)]; exact i1
          · rw [mst_ne (by decide), mst_eq, mst_ne (by decide)]; exact ex
        have tt : (mst (mst A 5 3 x) 5 9 (0 : Int32)) 5 10 = 0 := by rw [mst_ne (by decide), mst_ne (by decide)]; exact t0
        obtain ⟨M', N', hm, e1, e2, e3, e4⟩ := disp hx2 p tt rfl rfl rfl hh
        rw [e1, e2, e3]
        refine mid_z hm ?_
        rw [e4, mst_ne (by decide), mst_ne (by decide)]; exact e0
      by_cases h3 : A 5 3 = 0
      · rw [if_pos h3]
        have h21 : B 0 21 = 0 := i3 ▸ h3
        rw [if_pos h21] at i4
        by_cases h9 : A 5 9 = 0
        · rw [if_pos h9]; exact go 0 (by rw [if_pos h21, ← i4, h9])
        · rw [if_neg h9]
          refine go 1 ?_
          rw [if_pos h21]
          rcases i2 with b | b
          · exact absurd (i4.trans b) h9
          · exact b.symm
      · rw [if_neg h3]
        exact go 1 (by rw [if_neg (fun e => h3 (i3.trans e))])
    · have ha : ¬ A 5 4 = 0 := fun e => hh (f.2.2.2.1 ▸ e)
      rw [if_neg ha]
      right
      unfold f_R_step_j1_v f_R_step_j1_m f_Q_passHalted_m; dsimp only
      rw [if_neg hh, if_neg hh, mst_eq]
      have hS : RS d ρ A (mst (mst B 0 48 ((B 0 48) + (1 : Int32))) 0 20 (1 : Int32)) := (hx.s.n (j := 48) (v := B 0 48 + (1 : Int32)) (by decide) (by decide) (by decide) (any_rng _)).n (by decide) (by decide) (by decide) (any_rng _)
      have hF : RF A (mst (mst B 0 48 ((B 0 48) + (1 : Int32))) 0 20 (1 : Int32)) := by
        obtain ⟨q1, q2, q3, q4, q5⟩ := f
        refine ⟨?_, ?_, ?_, ?_, ?_⟩
        · rw [mst_no (by decide), mst_no (by decide)]; exact q1
        · rw [mst_ne (by decide), mst_ne (by decide)]; exact q2
        · rw [mst_ne (by decide), mst_ne (by decide)]; exact q3
        · rw [mst_ne (by decide), mst_ne (by decide)]; exact q4
        · rw [mst_ne (by decide), mst_ne (by decide)]; exact q5
      have hI : IM A (mst (mst B 0 48 ((B 0 48) + (1 : Int32))) 0 20 (1 : Int32)) := by
        unfold IM at im ⊢
        rw [mst_ne (by decide), mst_ne (by decide), mst_ne (by decide), mst_ne (by decide)]; exact im
      have z := pass_z hS hF hI (by rw [mst_ne (by decide), mst_ne (by decide)]; exact b23) (t := 1) (by decide)
      exact ⟨rfl, by decide, z.1, z.2.1, z.2.2.trans (by rw [e0])⟩
  have f0 : RF (mst M 5 10 (0 : Int32)) (mst N 0 20 (0 : Int32)) := by
    obtain ⟨q1, q2, q3, q4, q5⟩ := hf
    refine ⟨?_, ?_, ?_, ?_, ?_⟩
    · rw [mst_no (by decide), mst_no (by decide)]; exact q1
    · rw [mst_ne (by decide), mst_ne (by decide)]; exact q2
    · rw [mst_ne (by decide), mst_ne (by decide)]; exact q3
    · rw [mst_ne (by decide), mst_ne (by decide)]; exact q4
    · rw [mst_ne (by decide), mst_ne (by decide)]; exact q5
  have i0 : IM (mst M 5 10 (0 : Int32)) (mst N 0 20 (0 : Int32)) := by
    unfold IM at im ⊢
    rw [mst_ne (by decide), mst_ne (by decide), mst_ne (by decide), mst_ne (by decide)]; exact im
  have b0 : (mst N 0 20 (0 : Int32)) 0 23 = 0 := by rw [mst_ne (by decide)]; exact h23
  have t0 : (mst M 5 10 (0 : Int32)) 5 10 = 0 := mst_eq
  have e0 : (mst M 5 10 (0 : Int32)) 5 0 = M 5 0 := mst_ne (by decide)
  generalize mst M 5 10 (0 : Int32) = A at *
  generalize mst N 0 20 (0 : Int32) = B at *
  by_cases hw0 : w = 0
  · simp only [if_pos hw0]
    exact rest A B x0 f0 i0 b0 t0 e0
  · simp only [if_neg hw0]
    have x1 : RX d ρ (mst A 5 4 (0 : Int32)) (mst B 0 22 (0 : Int32)) := (x0.m (by decide) (by decide) _).n (by decide) (by decide) (by decide) (by decide) (any_rng _)
    have f1 : RF (mst A 5 4 (0 : Int32)) (mst B 0 22 (0 : Int32)) := by
      obtain ⟨q1, q2, q3, q4, q5⟩ := f0
      refine ⟨?_, ?_, ?_, ?_, ?_⟩
      · rw [mst_no (by decide), mst_no (by decide)]; exact q1
      · rw [mst_ne (by decide), mst_ne (by decide)]; exact q2
      · rw [mst_ne (by decide), mst_ne (by decide)]; exact q3
      · rw [mst_eq, mst_eq]
      · rw [mst_ne (by decide), mst_ne (by decide)]; exact q5
    have i1 : IM (mst A 5 4 (0 : Int32)) (mst B 0 22 (0 : Int32)) := by
      unfold IM at i0 ⊢
      rw [mst_ne (by decide), mst_ne (by decide), mst_ne (by decide), mst_ne (by decide)]; exact i0
    have b1 : (mst B 0 22 (0 : Int32)) 0 23 = 0 := by rw [mst_ne (by decide)]; exact b0
    have t1 : (mst A 5 4 (0 : Int32)) 5 10 = 0 := by rw [mst_ne (by decide)]; exact t0
    have e1 : (mst A 5 4 (0 : Int32)) 5 0 = M 5 0 := by rw [mst_ne (by decide)]; exact e0
    generalize mst A 5 4 (0 : Int32) = A1 at *
    generalize mst B 0 22 (0 : Int32) = B1 at *
    by_cases h21 : B1 0 21 = 0
    · have h3 : A1 5 3 = 0 := i1.2.2.1.trans h21
      rw [if_pos h3, if_pos h21, if_pos h21]
      exact rest A1 B1 x1 f1 i1 b1 t1 e1
    · have h3 : ¬ A1 5 3 = 0 := fun e => h21 (i1.2.2.1 ▸ e)
      rw [if_neg h3, if_neg h21, if_neg h21]
      have h9 : A1 5 9 = 0 := by rw [i1.2.2.2, if_neg h21]
      obtain ⟨n, hn, a1, a2, a3⟩ := num_s hw hw0 A1 B1
      rw [a1, a2, a3]
      obtain ⟨m, m0, b3⟩ := int_s x1 f1 h9 b1 hn
      have z := mid_z m (M0 := M) (m0.trans e1)
      obtain ⟨ev, em⟩ := j2_eq (s := 0) (i := 0) b3
      rw [ev, em, show imS 0 0 (intR (nI n) B1) = intR (nI n) B1 from by unfold imS; rw [if_pos rfl]] at z
      exact z
