/-! run. -/
theorem l2_eq (all x : Int32) (Kv : Int32 → Int32 → Mem → Int32) (Km : Int32 → Int32 → Mem → Mem) (c : Int32) : ∀ (n : Nat) (i : Int32) (N : Mem), N 0 20 = c → 0 ≤ i.toInt → i.toInt ≤ c.toInt → c.toInt < i.toInt + n → f_R_run_l2_v all x Kv n i N = Kv (all + c) (x + (1 : Int32)) (cycN (c.toInt - i.toInt).toNat N) ∧ f_R_run_l2_m all x Km n i N = Km (all + c) (x + (1 : Int32)) (cycN (c.toInt - i.toInt).toNat N) := by
  intro n
  induction n with
  | zero => intro i N hc h1 h2 h3; exact absurd h3 (by omega)
  | succ n ih =>
    intro i N hc h1 h2 h3
    rw [f_R_run_l2_v_s, f_R_run_l2_m_s]; dsimp only
    rw [hc]
    by_cases hx : c ≤ i
    · rw [if_pos hx, if_pos hx]
      have : c.toInt - i.toInt = 0 := by rw [ti_le] at hx; omega
      rw [this]; exact ⟨rfl, rfl⟩
    · rw [if_neg hx, if_neg hx]
      have hi : i.toInt < c.toInt := by rw [ti_le] at hx; omega
      have h9 := any_rng c
      have h7 := a1_ti (a := i) (by omega)
      have e : (c.toInt - i.toInt).toNat = (c.toInt - (i + (1 : Int32)).toInt).toNat + 1 := by omega
      rw [e, cycN_s]
      exact ih _ _ (by rw [cy_n N (Or.inr (by decide)) (Or.inr (by decide))]; exact hc) (by omega) (by omega) (by omega)
theorem cycN_0 : ∀ (k : Nat) (N : Mem), cycN k N 0 0 = N 0 0 := by
  intro k
  induction k with
  | zero => intro N; rfl
  | succ k ih => intro N; rw [cycN_s, ih, cy_n N (Or.inr (by decide)) (Or.inr (by decide))]
theorem RZ.e {d : Int32} {ρ : Nat → Int32} {M N : Mem} (h : RZ d ρ M N) (c : Int32) : RZ d ρ M (mst N 0 0 c) := by
  obtain ⟨hs, ⟨q1, q2, q3, q4, q5⟩, hb, hi⟩ := h
  refine ⟨hs.n (by decide) (by decide) (by decide) (any_rng _), ⟨?_, ?_, ?_, ?_, ?_⟩, ?_, ?_⟩
  · rw [mst_no (by decide)]; exact q1
  · rw [mst_ne (by decide)]; exact q2
  · rw [mst_ne (by decide)]; exact q3
  · rw [mst_ne (by decide)]; exact q4
  · rw [mst_ne (by decide)]; exact q5
  · rw [mst_ne (by decide)]; exact hb
  · unfold IM at hi ⊢; rw [mst_ne (by decide), mst_ne (by decide), mst_ne (by decide)]; exact hi
theorem run_z {a x10 : Int32} {d : Int32} {ρ : Nat → Int32} (ha : a.toInt ≤ 100) : ∀ (n : Nat) (x all : Int32) (M N : Mem), 0 ≤ x.toInt → x.toInt ≤ 100 → 100 < x.toInt + n → SC d ρ M → RZ d ρ M N → N 0 23 = 0 → N 0 0 = 0 → M 5 0 = x10 + all →
    (ok_T_run_l1 a x10 n x M ∧ SC d ρ (f_T_run_l1_m a x10 n x M) ∧ RZ d ρ (f_T_run_l1_m a x10 n x M) (f_R_run_l1_m a n all x N) ∧ f_R_run_l1_m a n all x N 0 0 = 0 ∧ f_T_run_l1_v a x10 n x M = f_R_run_l1_v a n all x N) ∨ (ok_TX_run_l1 a n x M ∧ SC d ρ (f_TX_run_l1_m a n x M) ∧ f_TX_run_l1_v a n x M = 3 ∧ RZ d ρ (f_TX_run_l1_m a n x M) (f_R_run_l1_m a n all x N) ∧ f_R_run_l1_m a n all x N 0 0 = 3) := by
  intro n
  induction n with
  | zero => intro x all M N h1 h2 h3; exact absurd h3 (by omega)
  | succ n ih =>
    intro x all M N h1 h2 h3 sM hz h23 h00 e0
    rw [f_T_run_l1_m_s, f_T_run_l1_v_s, f_TX_run_l1_m_s, f_TX_run_l1_v_s, f_R_run_l1_m_s, f_R_run_l1_v_s]; dsimp only
    by_cases hc : a ≤ x
    · simp only [if_pos hc]
      refine Or.inl ⟨⟨fun _ => trivial, fun h => absurd hc h⟩, sM, hz, h00, ?_⟩
      rw [e0, Int32.add_comm, Int32.add_sub_cancel]
    · simp only [if_neg hc]
      have hx : x.toInt < 100 := by rw [ti_le] at hc; omega
      have h7 := a1_ti (a := x) (by omega)
      have h55 : M 5 5 = 0 := hz.2.1.2.2.2.2.trans h23
      simp only [if_pos h55]
      have hs := so_Q_step M sM
      have er := er_R_step N h00
      rcases step_s hz h23 with ⟨ev, z, z23⟩ | ⟨ev, ht, z, z23, z0⟩
      · right
        have l5 : ¬ (f_Q_step_m M) 5 5 = 0 := by rw [z.2.1.2.2.2.2, z23]; decide
        rw [ev, if_pos rfl]
        unfold f_TX_run_j2_m f_TX_run_j2_v f_R_run_j4_m; dsimp only
        rw [if_neg l5, if_neg l5, flvn (by decide) er (by decide), if_neg (by decide), flmn (by decide) er]
        refine ⟨⟨fun h => absurd h hc, fun _ => ⟨fun hn => absurd h55 hn, fun _ => ⟨hs.1, fun M18 e18 => ?_⟩⟩⟩, hs.2, rfl, z.e 3, mst_eq⟩
        subst e18
        exact ⟨fun h => absurd h l5, fun _ => trivial⟩
      · have l5 : (f_Q_step_m M) 5 5 = 0 := by rw [z.2.1.2.2.2.2, z23]
        rw [ev]; simp only [if_neg (show ¬ (1 : Int32) = 0 by decide)]
        have q : ∀ (Kv : Int32 → Int32 → Mem → Int32) (Km : Int32 → Int32 → Mem → Mem), f_R_run_j4_v all x (f_R_step_m N) Kv 0 = Kv (all + f_R_step_m N 0 20) (x + (1 : Int32)) (cycN (f_R_step_m N 0 20).toInt.toNat (f_R_step_m N)) ∧ f_R_run_j4_m all x (f_R_step_m N) Km 0 = Km (all + f_R_step_m N 0 20) (x + (1 : Int32)) (cycN (f_R_step_m N 0 20).toInt.toNat (f_R_step_m N)) := by
          intro Kv Km
          unfold f_R_run_j4_v f_R_run_j4_m; dsimp only
          rw [flv0 er, flm0, if_pos rfl, if_pos rfl]
          have h9 : (f_R_step_m N 0 20).toNatClampNeg = (f_R_step_m N 0 20).toInt.toNat := rfl
          have t := l2_eq all x Kv Km (f_R_step_m N 0 20) ((f_R_step_m N 0 20).toNatClampNeg + 1) 0 (f_R_step_m N) rfl (by decide) (by rw [show (0 : Int32).toInt = 0 from by decide]; exact ht) (by rw [show (0 : Int32).toInt = 0 from by decide]; omega)
          rw [show (0 : Int32).toInt = 0 from by decide, Int.sub_zero] at t
          exact t
        rw [(q (fun _ _ _ => 0) (f_R_run_l1_m a n)).2, (q (f_R_run_l1_v a n) (fun _ _ N => N)).1]
        have ec : cycN (f_R_step_m N 0 20).toInt.toNat (f_R_step_m N) 0 0 = 0 := by rw [cycN_0]; exact er
        unfold f_T_run_j2_m f_T_run_j2_v f_TX_run_j2_m f_TX_run_j2_v; dsimp only
        simp only [if_pos l5]
        rcases ih (x + (1 : Int32)) (all + f_R_step_m N 0 20) (f_Q_step_m M) _ (by omega) (by omega) (by omega) hs.2 z z23 ec (by rw [z0, e0, Int32.add_assoc]) with h | h
        · refine Or.inl ⟨⟨fun h => absurd h hc, fun _ => ⟨fun hn => absurd h55 hn, fun _ => ⟨hs.1, fun M18 e18 => ?_⟩⟩⟩, h.2⟩
          subst e18
          exact ⟨fun _ x17 e17 => by subst e17; exact h.1, fun hn => absurd l5 hn⟩
        · refine Or.inr ⟨⟨fun h => absurd h hc, fun _ => ⟨fun hn => absurd h55 hn, fun _ => ⟨hs.1, fun M18 e18 => ?_⟩⟩⟩, h.2⟩
          subst e18
          exact ⟨fun _ x17 e17 => by subst e17; exact h.1, fun hn => absurd l5 hn⟩
