set_option maxRecDepth 100000 in
set_option maxHeartbeats 4000000 in
theorem so_P_moveTimer_j1 {d : Int32} {ρ : Nat → Int32} {Q : Mem → Prop} (M0 : Mem) (s_M0 : SC d ρ M0) (hQ : ∀ (M' : Mem), SC d ρ M' → Q M') : Q (f_P_moveTimer_j1_m M0) := by
  unfold f_P_moveTimer_j1_m
  (try dsimp only)
  exact hQ _ s_M0
set_option maxRecDepth 100000 in
set_option maxHeartbeats 4000000 in
theorem so_P_moveTimer_j2 {d : Int32} {ρ : Nat → Int32} {Q : Mem → Prop} (M14 : Mem) (s_M14 : SC d ρ M14) (hQ : ∀ (M' : Mem), SC d ρ M' → Q M') : Q (f_P_moveTimer_j2_m M14) := by
  unfold f_P_moveTimer_j2_m
  (try dsimp only)
  exact hQ _ s_M14
set_option maxRecDepth 100000 in
set_option maxHeartbeats 4000000 in
theorem sq_P_moveTimer {d : Int32} {ρ : Nat → Int32} {Q : Mem → Prop} (M0 : Mem) (s_M0 : SC d ρ M0) (hQ : ∀ (M' : Mem), SC d ρ M' → Q M') : ok_P_moveTimer M0 ∧ Q (f_P_moveTimer_m M0) := by
  unfold ok_P_moveTimer f_P_moveTimer_m
  (try dsimp only)
  refine ps_let ?_
  generalize e_x1 : (M0 8 7) = x1
  by_cases hc1 : (x1 &&& (4 : Int32)) = 0
  · skip
    refine ps_brp hc1 ?_
    refine And.intro trivial ?_
    (try simp only [if_pos hc1])
    exact so_P_moveTimer_j1 (d := d) (ρ := ρ) M0 s_M0 hQ
  · skip
    refine ps_brn hc1 ?_
    (try simp only [if_neg hc1])
    refine And.intro (by exact vp_and (by decide)) ?_
    by_cases hc2 : ((M0 2 3) &&& (tv_c0 ((x1 &&& (3 : Int32))).toNatClampNeg)) = 0
    · skip
      (try simp only [if_pos hc2])
      by_cases hc3 : (M0 8 5) = (255 : Int32)
      · skip
        (try simp only [if_pos hc3])
        have s_M16 : SC d ρ (mst M0 8 5 (M0 8 6)) := SC.sa s_M0 (by decide)
        generalize e_M16 : mst M0 8 5 (M0 8 6) = M16 at s_M16 ⊢
        have s_M17 : SC d ρ (mst M16 8 15 ((M16 8 15) ||| (4 : Int32))) := SC.sa s_M16 (by decide)
        generalize e_M17 : mst M16 8 15 ((M16 8 15) ||| (4 : Int32)) = M17 at s_M17 ⊢
        exact so_P_moveTimer_j2 (d := d) (ρ := ρ) M17 s_M17 hQ
      · skip
        (try simp only [if_neg hc3])
        have s_M15 : SC d ρ (mst M0 8 5 ((M0 8 5) + (1 : Int32))) := SC.sa s_M0 (by decide)
        generalize e_M15 : mst M0 8 5 ((M0 8 5) + (1 : Int32)) = M15 at s_M15 ⊢
        exact so_P_moveTimer_j2 (d := d) (ρ := ρ) M15 s_M15 hQ
    · skip
      (try simp only [if_neg hc2])
      exact so_P_moveTimer_j1 (d := d) (ρ := ρ) M0 s_M0 hQ
theorem so_P_moveTimer {d : Int32} {ρ : Nat → Int32} (M0 : Mem) (s_M0 : SC d ρ M0) : ok_P_moveTimer M0 ∧ SC d ρ (f_P_moveTimer_m M0) := sq_P_moveTimer (d := d) (ρ := ρ) (Q := fun M' => SC d ρ M') M0 s_M0  (fun _ h0 => h0)
set_option maxRecDepth 100000 in
set_option maxHeartbeats 4000000 in
theorem so_P_moveDot_j2 {d : Int32} {ρ : Nat → Int32} {Q : Mem → Prop} (M16 : Mem) (s_M16 : SC d ρ M16) (hQ : ∀ (M' : Mem), SC d ρ M' → Q M') : Q (f_P_moveDot_j2_m M16) := by
  unfold f_P_moveDot_j2_m
  (try dsimp only)
  exact hQ _ s_M16
set_option maxRecDepth 100000 in
set_option maxHeartbeats 4000000 in
theorem so_P_moveDot_j1 {d : Int32} {ρ : Nat → Int32} {Q : Mem → Prop} (M2 : Mem) (x11 : Int32) (s_M2 : SC d ρ M2) (hQ : ∀ (M' : Mem), SC d ρ M' → Q M') : Q (f_P_moveDot_j1_m M2 x11) := by
  unfold f_P_moveDot_j1_m
  (try dsimp only)
  have s_M12 : SC d ρ (mst M2 2 5 x11) := SC.s2 s_M2 (by decide)
  generalize e_M12 : mst M2 2 5 x11 = M12 at s_M12 ⊢
  by_cases hc1 : (M12 2 5) = (144 : Int32)
  · skip
    (try simp only [if_pos hc1])
    have s_M17 : SC d ρ (mst M12 8 15 ((M12 8 15) ||| (1 : Int32))) := SC.sa s_M12 (by decide)
    generalize e_M17 : mst M12 8 15 ((M12 8 15) ||| (1 : Int32)) = M17 at s_M17 ⊢
    have s_M18 : SC d ρ (mst M17 2 1 ((M17 2 1) + (1 : Int32))) := SC.s2 s_M17 (by decide)
    generalize e_M18 : mst M17 2 1 ((M17 2 1) + (1 : Int32)) = M18 at s_M18 ⊢
    exact so_P_moveDot_j2 (d := d) (ρ := ρ) M18 s_M18 hQ
  · skip
    (try simp only [if_neg hc1])
    exact so_P_moveDot_j2 (d := d) (ρ := ρ) M12 s_M12 hQ
set_option maxRecDepth 100000 in
set_option maxHeartbeats 4000000 in
theorem sq_P_moveDot {d : Int32} {ρ : Nat → Int32} {Q : Mem → Prop} (M0 : Mem) (s_M0 : SC d ρ M0) (hQ : ∀ (M' : Mem), SC d ρ M' → Q M') : Q (f_P_moveDot_m M0) := by
  unfold f_P_moveDot_m
  (try dsimp only)
  by_cases hc1 : ((M0 8 64) &&& (128 : Int32)) = 0
  · skip
    (try simp only [if_pos hc1])
    exact hQ _ s_M0
  · skip
    (try simp only [if_neg hc1])
    have s_M1 : SC d ρ (mst M0 2 4 ((M0 2 4) + (1 : Int32))) := SC.s2 s_M0 (by decide)
    generalize e_M1 : mst M0 2 4 ((M0 2 4) + (1 : Int32)) = M1 at s_M1 ⊢
    by_cases hc2 : (114 : Int32) ≤ (M1 2 4)
    · skip
      (try simp only [if_pos hc2])
      have s_M2 : SC d ρ (mst M1 2 4 (0 : Int32)) := SC.s2 s_M1 (by decide)
      generalize e_M2 : mst M1 2 4 (0 : Int32) = M2 at s_M2 ⊢
      by_cases hc3 : (154 : Int32) ≤ ((M2 2 5) + (1 : Int32))
      · skip
        (try simp only [if_pos hc3])
        exact so_P_moveDot_j1 (d := d) (ρ := ρ) M2 (0 : Int32) s_M2 hQ
      · skip
        (try simp only [if_neg hc3])
        exact so_P_moveDot_j1 (d := d) (ρ := ρ) M2 ((M2 2 5) + (1 : Int32)) s_M2 hQ
    · skip
      (try simp only [if_neg hc2])
      exact hQ _ s_M1
theorem so_P_moveDot {d : Int32} {ρ : Nat → Int32} (M0 : Mem) (s_M0 : SC d ρ M0) : SC d ρ (f_P_moveDot_m M0) := sq_P_moveDot (d := d) (ρ := ρ) (Q := fun M' => SC d ρ M') M0 s_M0  (fun _ h0 => h0)
set_option maxRecDepth 100000 in
set_option maxHeartbeats 4000000 in
theorem so_P_rowSignals_j1 {d : Int32} {ρ : Nat → Int32} {Q : Int32 → Prop} (x2 : Int32) (hp0 : isB x2) (hQ : ∀ (x : Int32), Q x) : ok_P_rowSignals_j1 x2 ∧ Q (f_P_rowSignals_j1_v x2) := by
  unfold ok_P_rowSignals_j1 f_P_rowSignals_j1_v
  (try dsimp only)
  refine And.intro (by assumption) ?_
  exact hQ _
set_option maxRecDepth 100000 in
set_option maxHeartbeats 4000000 in
theorem so_P_rowSignals_j2 {d : Int32} {ρ : Nat → Int32} {Q : Int32 → Prop} (hQ : ∀ (x : Int32), Q x) : ok_P_rowSignals_j2  ∧ Q (f_P_rowSignals_j2_v ) := by
  unfold ok_P_rowSignals_j2 f_P_rowSignals_j2_v
  (try dsimp only)
  exact so_P_rowSignals_j1 (d := d) (ρ := ρ) (0 : Int32) (by exact isB_0) hQ
set_option maxRecDepth 100000 in
set_option maxHeartbeats 4000000 in
theorem sq_P_rowSignals {d : Int32} {ρ : Nat → Int32} {Q : Int32 → Prop} (M0 : Mem) (s_M0 : SC d ρ M0) (hQ : ∀ (x : Int32), Q x) : ok_P_rowSignals M0 ∧ Q (f_P_rowSignals_v M0) := by
  unfold ok_P_rowSignals f_P_rowSignals_v
  (try dsimp only)
  by_cases hc1 : ((M0 8 65) &&& (64 : Int32)) = 0
  · skip
    refine ps_brp hc1 ?_
    (try simp only [if_pos hc1])
    exact so_P_rowSignals_j2 (d := d) (ρ := ρ) hQ
  · skip
    refine ps_brn hc1 ?_
    (try simp only [if_neg hc1])
    by_cases hc2 : (M0 2 5) = (M0 8 69)
    · skip
      refine ps_nrp hc2 ?_
      (try simp only [if_pos hc2])
      exact so_P_rowSignals_j1 (d := d) (ρ := ρ) (1 : Int32) (by exact isB_1) hQ
    · skip
      refine ps_nrn hc2 ?_
      (try simp only [if_neg hc2])
      exact so_P_rowSignals_j2 (d := d) (ρ := ρ) hQ
theorem so_P_rowSignals {d : Int32} {ρ : Nat → Int32} (M0 : Mem) (s_M0 : SC d ρ M0) : ok_P_rowSignals M0 ∧ True := sq_P_rowSignals (d := d) (ρ := ρ) (Q := fun _ => True) M0 s_M0  (fun _ => trivial)
set_option maxRecDepth 100000 in
set_option maxHeartbeats 4000000 in
theorem so_P_stateSignals_j1 {d : Int32} {ρ : Nat → Int32} {Q : Int32 → Prop} (x2 : Int32) (hp0 : isB x2) (hQ : ∀ (x : Int32), Q x) : ok_P_stateSignals_j1 x2 ∧ Q (f_P_stateSignals_j1_v x2) := by
  unfold ok_P_stateSignals_j1 f_P_stateSignals_j1_v
  (try dsimp only)
  refine And.intro (by assumption) ?_
  exact hQ _
set_option maxRecDepth 100000 in
set_option maxHeartbeats 4000000 in
theorem so_P_stateSignals_j2 {d : Int32} {ρ : Nat → Int32} {Q : Int32 → Prop} (hQ : ∀ (x : Int32), Q x) : ok_P_stateSignals_j2  ∧ Q (f_P_stateSignals_j2_v ) := by
  unfold ok_P_stateSignals_j2 f_P_stateSignals_j2_v
  (try dsimp only)
  exact so_P_stateSignals_j1 (d := d) (ρ := ρ) (0 : Int32) (by exact isB_0) hQ
set_option maxRecDepth 100000 in
set_option maxHeartbeats 4000000 in
theorem sq_P_stateSignals {d : Int32} {ρ : Nat → Int32} {Q : Int32 → Prop} (M0 : Mem) (s_M0 : SC d ρ M0) (hQ : ∀ (x : Int32), Q x) : ok_P_stateSignals M0 ∧ Q (f_P_stateSignals_v M0) := by
  unfold ok_P_stateSignals f_P_stateSignals_v
  (try dsimp only)
  by_cases hc1 : (3 : Int32) ≤ (M0 2 6)
  · skip
    refine ps_brp hc1 ?_
    (try simp only [if_pos hc1])
    exact so_P_stateSignals_j2 (d := d) (ρ := ρ) hQ
  · skip
    refine ps_brn hc1 ?_
    (try simp only [if_neg hc1])
    by_cases hc2 : ((M0 8 65) &&& ((8 : Int32) <<< ((M0 2 6) &&& (31 : Int32)))) = 0
    · skip
      refine ps_brp hc2 ?_
      (try simp only [if_pos hc2])
      exact so_P_stateSignals_j2 (d := d) (ρ := ρ) hQ
    · skip
      refine ps_brn hc2 ?_
      (try simp only [if_neg hc2])
      exact so_P_stateSignals_j1 (d := d) (ρ := ρ) (1 : Int32) (by exact isB_1) hQ
theorem so_P_stateSignals {d : Int32} {ρ : Nat → Int32} (M0 : Mem) (s_M0 : SC d ρ M0) : ok_P_stateSignals M0 ∧ True := sq_P_stateSignals (d := d) (ρ := ρ) (Q := fun _ => True) M0 s_M0  (fun _ => trivial)
set_option maxRecDepth 100000 in
set_option maxHeartbeats 4000000 in
theorem so_P_lookAtSignal_j2 {d : Int32} {ρ : Nat → Int32} {Q : Mem → Prop} (x11 : Int32) (M15 : Mem) (s_M15 : SC d ρ M15) (hp0 : isB x11) (hQ : ∀ (M' : Mem), SC d ρ M' → Q M') : ok_P_lookAtSignal_j2 x11 M15 ∧ Q (f_P_lookAtSignal_j2_m x11 M15) := by
  unfold ok_P_lookAtSignal_j2 f_P_lookAtSignal_j2_m
  (try dsimp only)
  refine And.intro (by assumption) ?_
  have s_M16 : SC d ρ (mst M15 2 7 x11) := SC.s2 s_M15 (by decide)
  generalize e_M16 : mst M15 2 7 x11 = M16 at s_M16 ⊢
  exact hQ _ s_M16
set_option maxRecDepth 100000 in
set_option maxHeartbeats 4000000 in
theorem so_P_lookAtSignal_j1 {d : Int32} {ρ : Nat → Int32} {Q : Mem → Prop} (M0 : Mem) (x11 : Int32) (s_M0 : SC d ρ M0) (hp0 : isB x11) (hQ : ∀ (M' : Mem), SC d ρ M' → Q M') : ok_P_lookAtSignal_j1 M0 x11 ∧ Q (f_P_lookAtSignal_j1_m M0 x11) := by
  unfold ok_P_lookAtSignal_j1 f_P_lookAtSignal_j1_m
  (try dsimp only)
  by_cases hc1 : x11 = 0
  · skip
    refine ps_brp hc1 ?_
    (try simp only [if_pos hc1])
    exact so_P_lookAtSignal_j2 (d := d) (ρ := ρ) x11 M0 s_M0 (by assumption) hQ
  · skip
    refine ps_brn hc1 ?_
    (try simp only [if_neg hc1])
    by_cases hc2 : (M0 2 7) = 0
    · skip
      refine ps_nrp hc2 ?_
      (try simp only [if_pos hc2])
      refine ps_let ?_
      have s_M17 : SC d ρ (mst M0 8 15 ((M0 8 15) ||| (2 : Int32))) := SC.sa s_M0 (by decide)
      generalize e_M17 : mst M0 8 15 ((M0 8 15) ||| (2 : Int32)) = M17 at s_M17 ⊢
      exact so_P_lookAtSignal_j2 (d := d) (ρ := ρ) x11 M17 s_M17 (by assumption) hQ
    · skip
      refine ps_nrn hc2 ?_
      (try simp only [if_neg hc2])
      exact so_P_lookAtSignal_j2 (d := d) (ρ := ρ) x11 M0 s_M0 (by assumption) hQ
set_option maxRecDepth 100000 in
set_option maxHeartbeats 4000000 in
theorem so_P_lookAtSignal_j3 {d : Int32} {ρ : Nat → Int32} {Q : Mem → Prop} (M0 : Mem) (s_M0 : SC d ρ M0) (hQ : ∀ (M' : Mem), SC d ρ M' → Q M') : ok_P_lookAtSignal_j3 M0 ∧ Q (f_P_lookAtSignal_j3_m M0) := by
  unfold ok_P_lookAtSignal_j3 f_P_lookAtSignal_j3_m
  (try dsimp only)
  exact so_P_lookAtSignal_j1 (d := d) (ρ := ρ) M0 (0 : Int32) s_M0 (by exact isB_0) hQ
set_option maxRecDepth 100000 in
set_option maxHeartbeats 4000000 in
theorem so_P_lookAtSignal_j4 {d : Int32} {ρ : Nat → Int32} {Q : Mem → Prop} (M0 : Mem) (s_M0 : SC d ρ M0) (hQ : ∀ (M' : Mem), SC d ρ M' → Q M') : ok_P_lookAtSignal_j4 M0 ∧ Q (f_P_lookAtSignal_j4_m M0) := by
  unfold ok_P_lookAtSignal_j4 f_P_lookAtSignal_j4_m
  (try dsimp only)
  exact so_P_lookAtSignal_j1 (d := d) (ρ := ρ) M0 (1 : Int32) s_M0 (by exact isB_1) hQ
set_option maxRecDepth 100000 in
set_option maxHeartbeats 4000000 in
theorem sq_P_lookAtSignal {d : Int32} {ρ : Nat → Int32} {Q : Mem → Prop} (M0 : Mem) (s_M0 : SC d ρ M0) (hQ : ∀ (M' : Mem), SC d ρ M' → Q M') : ok_P_lookAtSignal M0 ∧ Q (f_P_lookAtSignal_m M0) := by
  unfold ok_P_lookAtSignal f_P_lookAtSignal_m
  (try dsimp only)
  by_cases hc1 : ((M0 8 64) &&& (128 : Int32)) = 0
  · skip
    refine ps_brp hc1 ?_
    (try simp only [if_pos hc1])
    exact so_P_lookAtSignal_j3 (d := d) (ρ := ρ) M0 s_M0 hQ
  · skip
    refine ps_brn hc1 ?_
    (try simp only [if_neg hc1])
    have t_ := so_P_rowSignals (d := d) (ρ := ρ) M0 s_M0 
    refine ps_and t_.1 ?_
    replace t_ := t_.2
    refine ps_let ?_
    generalize e_x18 : f_P_rowSignals_v M0 = x18 at t_ ⊢
    by_cases hc2 : x18 = 0
    · skip
      refine ps_nrp hc2 ?_
      (try simp only [if_pos hc2])
      have t_ := so_P_stateSignals (d := d) (ρ := ρ) M0 s_M0 
      refine ps_and t_.1 ?_
      replace t_ := t_.2
      refine ps_let ?_
      generalize e_x20 : f_P_stateSignals_v M0 = x20 at t_ ⊢
      by_cases hc3 : x20 = 0
      · skip
        refine ps_brp hc3 ?_
        (try simp only [if_pos hc3])
        exact so_P_lookAtSignal_j3 (d := d) (ρ := ρ) M0 s_M0 hQ
      · skip
        refine ps_brn hc3 ?_
        (try simp only [if_neg hc3])
        exact so_P_lookAtSignal_j4 (d := d) (ρ := ρ) M0 s_M0 hQ
    · skip
      refine ps_nrn hc2 ?_
      (try simp only [if_neg hc2])
      exact so_P_lookAtSignal_j4 (d := d) (ρ := ρ) M0 s_M0 hQ
theorem so_P_lookAtSignal {d : Int32} {ρ : Nat → Int32} (M0 : Mem) (s_M0 : SC d ρ M0) : ok_P_lookAtSignal M0 ∧ SC d ρ (f_P_lookAtSignal_m M0) := sq_P_lookAtSignal (d := d) (ρ := ρ) (Q := fun M' => SC d ρ M') M0 s_M0  (fun _ h0 => h0)
set_option maxRecDepth 100000 in
set_option maxHeartbeats 4000000 in
theorem so_P_pass_l1 {d : Int32} {ρ : Nat → Int32} {Q : Mem → Prop} (a1 : Int32) (hq0 : (a1).toInt < 2147483648) (hQ : ∀ (M' : Mem), SC d ρ M' → Q M') : ∀ (n : Nat) (x1 : Int32) (M2 : Mem), SC d ρ M2 → 0 ≤ (x1).toInt → (a1).toInt < (x1).toInt + n → 0 < ((n : Nat) : Int) → ok_P_pass_l1 a1 n x1 M2 ∧ Q (f_P_pass_l1_m a1 n x1 M2) := by
  intro n
  induction n with
  | zero =>
    intro x1 M2 s_M2 hL0 hL1 hL2
    exact False.elim (by (try simp only [ti_le, ti_lt, Int32.reduceToInt] at *) <;> omega)
  | succ n ih =>
    intro x1 M2 s_M2 hL0 hL1 hL2
    have hK1 := ih
    show ((((a1 ≤ x1) → True) ∧ ((¬ a1 ≤ x1) → ∀ M3 : Mem, M3 = mst M2 2 3 (((M2 2 3) + (1 : Int32)) &&& (65535 : Int32)) → ok_P_moveTimer M3 ∧ (∀ M4 : Mem, M4 = f_P_moveTimer_m M3 → ∀ M5 : Mem, M5 = f_P_moveDot_m M4 → ∀ M6 : Mem, M6 = f_P_findState_m M5 → ok_P_lookAtSignal M6 ∧ (∀ M7 : Mem, M7 = f_P_lookAtSignal_m M6 → ∀ x8 : Int32, x8 = x1 + (1 : Int32) → (ok_P_pass_l1 a1 n) x8 M7))))) ∧ Q ((if a1 ≤ x1 then M2 else let M3 : Mem := mst M2 2 3 (((M2 2 3) + (1 : Int32)) &&& (65535 : Int32)); let M4 : Mem := f_P_moveTimer_m M3; let M5 : Mem := f_P_moveDot_m M4; let M6 : Mem := f_P_findState_m M5; let M7 : Mem := f_P_lookAtSignal_m M6; let x8 : Int32 := x1 + (1 : Int32); ((f_P_pass_l1_m a1 n) x8 M7)))
    (try dsimp only)
    by_cases hc2 : a1 ≤ x1
    · skip
      refine ps_brp hc2 ?_
      refine And.intro trivial ?_
      (try simp only [if_pos hc2])
      exact hQ _ s_M2
    · skip
      refine ps_brn hc2 ?_
      (try simp only [if_neg hc2])
      refine ps_let ?_
      have s_M3 : SC d ρ (mst M2 2 3 (((M2 2 3) + (1 : Int32)) &&& (65535 : Int32))) := SC.s2 s_M2 (by decide)
      generalize e_M3 : mst M2 2 3 (((M2 2 3) + (1 : Int32)) &&& (65535 : Int32)) = M3 at s_M3 ⊢
      have t_ := so_P_moveTimer (d := d) (ρ := ρ) M3 s_M3 
      refine ps_and t_.1 ?_
      replace t_ := t_.2
      refine ps_let ?_
      generalize e_M4 : f_P_moveTimer_m M3 = M4 at t_ ⊢
      have s_M4 := t_
      have t_ := so_P_moveDot (d := d) (ρ := ρ) M4 s_M4 
      refine ps_let ?_
      generalize e_M5 : f_P_moveDot_m M4 = M5 at t_ ⊢
      have s_M5 := t_
      have t_ := so_P_findState (d := d) (ρ := ρ) M5 s_M5 
      refine ps_let ?_
      generalize e_M6 : f_P_findState_m M5 = M6 at t_ ⊢
      have s_M6 := t_
      have t_ := so_P_lookAtSignal (d := d) (ρ := ρ) M6 s_M6 
      refine ps_and t_.1 ?_
      replace t_ := t_.2
      refine ps_let ?_
      generalize e_M7 : f_P_lookAtSignal_m M6 = M7 at t_ ⊢
      have s_M7 := t_
      refine ps_let ?_
      generalize e_x8 : x1 + (1 : Int32) = x8
      have a_x8 : x8.toInt = x1.toInt + 1 := by rw [← e_x8, ti_add (by (try simp only [ti_le, ti_lt, Int32.reduceToInt] at *) <;> omega) (by (try simp only [ti_le, ti_lt, Int32.reduceToInt] at *) <;> omega)]; rfl
      exact hK1 x8 M7 s_M7 (by first | assumption | ((try simp only [ti_le, ti_lt, Int32.reduceToInt] at *) <;> omega)) (by first | assumption | ((try simp only [ti_le, ti_lt, Int32.reduceToInt] at *) <;> omega)) (by first | assumption | ((try simp only [ti_le, ti_lt, Int32.reduceToInt] at *) <;> omega))
set_option maxRecDepth 100000 in
set_option maxHeartbeats 4000000 in
theorem sq_P_pass {d : Int32} {ρ : Nat → Int32} {Q : Mem → Prop} (M0 : Mem) (a1 : Int32) (s_M0 : SC d ρ M0) (hQ : ∀ (M' : Mem), SC d ρ M' → Q M') : ok_P_pass M0 a1 ∧ Q (f_P_pass_m M0 a1) := by
  unfold ok_P_pass f_P_pass_m
  (try dsimp only)
  exact so_P_pass_l1 (d := d) (ρ := ρ) a1 (by have h9 := Int32.toInt_lt a1; omega) hQ (a1.toNatClampNeg + 1) (0 : Int32) M0 s_M0 (by first | assumption | ((try simp only [ti_le, ti_lt, Int32.reduceToInt] at *) <;> omega)) (by have h9 : a1.toNatClampNeg = a1.toInt.toNat := rfl; (try simp only [Int32.reduceToInt]); omega) (by have h9 : a1.toNatClampNeg = a1.toInt.toNat := rfl; (try simp only [Int32.reduceToInt]); omega)
theorem so_P_pass {d : Int32} {ρ : Nat → Int32} (M0 : Mem) (a1 : Int32) (s_M0 : SC d ρ M0) : ok_P_pass M0 a1 ∧ SC d ρ (f_P_pass_m M0 a1) := sq_P_pass (d := d) (ρ := ρ) (Q := fun M' => SC d ρ M') M0 a1 s_M0  (fun _ h0 => h0)
set_option maxRecDepth 100000 in
set_option maxHeartbeats 4000000 in
theorem sq_Q_passHalted {d : Int32} {ρ : Nat → Int32} {Q : Mem → Prop} (M0 : Mem) (s_M0 : SC d ρ M0) (hQ : ∀ (M' : Mem), SC d ρ M' → Q M') : ok_Q_passHalted M0 ∧ Q (f_Q_passHalted_m M0) := by
  unfold ok_Q_passHalted f_Q_passHalted_m
  (try dsimp only)
  refine ps_let ?_
  have s_M1 : SC d ρ (mst M0 5 0 ((M0 5 0) + (1 : Int32))) := SC.sa s_M0 (by decide)
  generalize e_M1 : mst M0 5 0 ((M0 5 0) + (1 : Int32)) = M1 at s_M1 ⊢
  have t_ := so_P_pass (d := d) (ρ := ρ) M1 (1 : Int32) s_M1 
  refine And.intro t_.1 ?_
  replace t_ := t_.2
  generalize e_M2 : f_P_pass_m M1 (1 : Int32) = M2 at t_ ⊢
  have s_M2 := t_
  exact hQ _ s_M2
theorem so_Q_passHalted {d : Int32} {ρ : Nat → Int32} (M0 : Mem) (s_M0 : SC d ρ M0) : ok_Q_passHalted M0 ∧ SC d ρ (f_Q_passHalted_m M0) := sq_Q_passHalted (d := d) (ρ := ρ) (Q := fun M' => SC d ρ M') M0 s_M0  (fun _ h0 => h0)
set_option maxRecDepth 100000 in
set_option maxHeartbeats 4000000 in
theorem sq_Q_fetch {d : Int32} {ρ : Nat → Int32} {Q : Int32 → Mem → Prop} (M0 : Mem) (s_M0 : SC d ρ M0) (hQ : ∀ (x : Int32) (M' : Mem), SC d ρ M' → Q x M') : ok_Q_fetch M0 ∧ Q (f_Q_fetch_v M0) (f_Q_fetch_m M0) := by
  unfold ok_Q_fetch f_Q_fetch_v f_Q_fetch_m
  (try dsimp only)
  have t_ := so_Y_load (d := d) (ρ := ρ) M0 (M0 5 8) s_M0 
  refine And.intro t_.1 ?_
  replace t_ := t_.2
  generalize e_x1 : f_Y_load_v M0 (M0 5 8) = x1 at t_ ⊢
  have s_M2 : SC d ρ (mst M0 5 8 (((M0 5 8) + (1 : Int32)) &&& (65535 : Int32))) := SC.sa s_M0 (by decide)
  generalize e_M2 : mst M0 5 8 (((M0 5 8) + (1 : Int32)) &&& (65535 : Int32)) = M2 at s_M2 ⊢
  have s_M3 : SC d ρ (mst M2 5 10 ((M2 5 10) + (1 : Int32))) := SC.sa s_M2 (by decide)
  generalize e_M3 : mst M2 5 10 ((M2 5 10) + (1 : Int32)) = M3 at s_M3 ⊢
  exact hQ _ _ s_M3
theorem so_Q_fetch {d : Int32} {ρ : Nat → Int32} (M0 : Mem) (s_M0 : SC d ρ M0) : ok_Q_fetch M0 ∧ SC d ρ (f_Q_fetch_m M0) := sq_Q_fetch (d := d) (ρ := ρ) (Q := fun _ M' => SC d ρ M') M0 s_M0  (fun _ _ h0 => h0)
set_option maxRecDepth 100000 in
set_option maxHeartbeats 4000000 in
theorem sq_Q_fetchWord {d : Int32} {ρ : Nat → Int32} {Q : Int32 → Mem → Prop} (M0 : Mem) (s_M0 : SC d ρ M0) (hQ : ∀ (x : Int32) (M' : Mem), SC d ρ M' → Q x M') : ok_Q_fetchWord M0 ∧ Q (f_Q_fetchWord_v M0) (f_Q_fetchWord_m M0) := by
  unfold ok_Q_fetchWord f_Q_fetchWord_v f_Q_fetchWord_m
  (try dsimp only)
  have t_ := so_Q_fetch (d := d) (ρ := ρ) M0 s_M0 
  refine ps_and t_.1 ?_
  replace t_ := t_.2
  refine ps_let ?_
  refine ps_let ?_
  generalize e_x1 : f_Q_fetch_v M0 = x1 at t_ ⊢
  generalize e_M2 : f_Q_fetch_m M0 = M2 at t_ ⊢
  have s_M2 := t_
  have t_ := so_Q_fetch (d := d) (ρ := ρ) M2 s_M2 
  refine And.intro t_.1 ?_
  replace t_ := t_.2
  generalize e_x3 : f_Q_fetch_v M2 = x3 at t_ ⊢
  generalize e_M4 : f_Q_fetch_m M2 = M4 at t_ ⊢
  have s_M4 := t_
  exact hQ _ _ s_M4
theorem so_Q_fetchWord {d : Int32} {ρ : Nat → Int32} (M0 : Mem) (s_M0 : SC d ρ M0) : ok_Q_fetchWord M0 ∧ SC d ρ (f_Q_fetchWord_m M0) := sq_Q_fetchWord (d := d) (ρ := ρ) (Q := fun _ M' => SC d ρ M') M0 s_M0  (fun _ _ h0 => h0)
set_option maxRecDepth 100000 in
set_option maxHeartbeats 4000000 in
theorem sq_Q_storeStackPointer {d : Int32} {ρ : Nat → Int32} {Q : Mem → Prop} (M0 : Mem) (a1 : Int32) (s_M0 : SC d ρ M0) (hQ : ∀ (M' : Mem), SC d ρ M' → Q M') : ok_Q_storeStackPointer M0 a1 ∧ Q (f_Q_storeStackPointer_m M0 a1) := by
  unfold ok_Q_storeStackPointer f_Q_storeStackPointer_m
  (try dsimp only)
  have t_ := so_Y_store (d := d) (ρ := ρ) M0 a1 ((M0 5 7) &&& (255 : Int32)) s_M0 
  refine ps_and t_.1 ?_
  replace t_ := t_.2
  refine ps_let ?_
  generalize e_M1 : f_Y_store_m M0 a1 ((M0 5 7) &&& (255 : Int32)) = M1 at t_ ⊢
  have s_M1 := t_
  have t_ := so_Y_store (d := d) (ρ := ρ) M1 ((a1 + (1 : Int32)) &&& (65535 : Int32)) ((M1 5 7) >>> ((8 : Int32) &&& (31 : Int32))) s_M1 
  refine And.intro t_.1 ?_
  replace t_ := t_.2
  generalize e_M2 : f_Y_store_m M1 ((a1 + (1 : Int32)) &&& (65535 : Int32)) ((M1 5 7) >>> ((8 : Int32) &&& (31 : Int32))) = M2 at t_ ⊢
  have s_M2 := t_
  have s_M3 : SC d ρ (mst M2 5 10 ((M2 5 10) + (2 : Int32))) := SC.sa s_M2 (by decide)
  generalize e_M3 : mst M2 5 10 ((M2 5 10) + (2 : Int32)) = M3 at s_M3 ⊢
  exact hQ _ s_M3
theorem so_Q_storeStackPointer {d : Int32} {ρ : Nat → Int32} (M0 : Mem) (a1 : Int32) (s_M0 : SC d ρ M0) : ok_Q_storeStackPointer M0 a1 ∧ SC d ρ (f_Q_storeStackPointer_m M0 a1) := sq_Q_storeStackPointer (d := d) (ρ := ρ) (Q := fun M' => SC d ρ M') M0 a1 s_M0  (fun _ h0 => h0)
set_option maxRecDepth 100000 in
set_option maxHeartbeats 4000000 in
theorem so_Q_holds_j4 {d : Int32} {ρ : Nat → Int32} {Q : Int32 → Prop} (x30 : Int32) (hp0 : isB x30) (hQ : ∀ (x : Int32), Q x) : ok_Q_holds_j4 x30 ∧ Q (f_Q_holds_j4_v x30) := by
  unfold ok_Q_holds_j4 f_Q_holds_j4_v
  (try dsimp only)
  refine And.intro (by assumption) ?_
  exact hQ _
set_option maxRecDepth 100000 in
set_option maxHeartbeats 4000000 in
theorem so_Q_holds_j3 {d : Int32} {ρ : Nat → Int32} {Q : Int32 → Prop} (x24 : Int32) (x28 : Int32) (hQ : ∀ (x : Int32), Q x) : ok_Q_holds_j3 x24 x28 ∧ Q (f_Q_holds_j3_v x24 x28) := by
  unfold ok_Q_holds_j3 f_Q_holds_j3_v
  (try dsimp only)
  by_cases hc1 : x24 = x28
  · skip
    refine ps_nrp hc1 ?_
    (try simp only [if_pos hc1])
    exact so_Q_holds_j4 (d := d) (ρ := ρ) (1 : Int32) (by exact isB_1) hQ
  · skip
    refine ps_nrn hc1 ?_
    (try simp only [if_neg hc1])
    exact so_Q_holds_j4 (d := d) (ρ := ρ) (0 : Int32) (by exact isB_0) hQ
set_option maxRecDepth 100000 in
set_option maxHeartbeats 4000000 in
theorem so_Q_holds_j2 {d : Int32} {ρ : Nat → Int32} {Q : Int32 → Prop} (a1 : Int32) (x24 : Int32) (hQ : ∀ (x : Int32), Q x) : ok_Q_holds_j2 a1 x24 ∧ Q (f_Q_holds_j2_v a1 x24) := by
  unfold ok_Q_holds_j2 f_Q_holds_j2_v
  (try dsimp only)
  by_cases hc1 : (a1 &&& (1 : Int32)) = 0
  · skip
    refine ps_brp hc1 ?_
    (try simp only [if_pos hc1])
    exact so_Q_holds_j3 (d := d) (ρ := ρ) x24 (0 : Int32) hQ
  · skip
    refine ps_brn hc1 ?_
    (try simp only [if_neg hc1])
    exact so_Q_holds_j3 (d := d) (ρ := ρ) x24 (1 : Int32) hQ
set_option maxRecDepth 100000 in
set_option maxHeartbeats 4000000 in
theorem so_Q_holds_j1 {d : Int32} {ρ : Nat → Int32} {Q : Int32 → Prop} (M0 : Mem) (a1 : Int32) (x16 : Int32) (s_M0 : SC d ρ M0) (hQ : ∀ (x : Int32), Q x) : ok_Q_holds_j1 M0 a1 x16 ∧ Q (f_Q_holds_j1_v M0 a1 x16) := by
  unfold ok_Q_holds_j1 f_Q_holds_j1_v
  (try dsimp only)
  by_cases hc1 : ((M0 17 6) &&& x16) = 0
  · skip
    refine ps_brp hc1 ?_
    (try simp only [if_pos hc1])
    exact so_Q_holds_j2 (d := d) (ρ := ρ) a1 (0 : Int32) hQ
  · skip
    refine ps_brn hc1 ?_
    (try simp only [if_neg hc1])
    exact so_Q_holds_j2 (d := d) (ρ := ρ) a1 (1 : Int32) hQ
set_option maxRecDepth 100000 in
set_option maxHeartbeats 4000000 in
theorem sq_Q_holds {d : Int32} {ρ : Nat → Int32} {Q : Int32 → Prop} (M0 : Mem) (a1 : Int32) (s_M0 : SC d ρ M0) (hQ : ∀ (x : Int32), Q x) : ok_Q_holds M0 a1 ∧ Q (f_Q_holds_v M0 a1) := by
  unfold ok_Q_holds f_Q_holds_v
  (try dsimp only)
  by_cases hc1 : (2 : Int32) ≤ a1
  · skip
    refine ps_brp hc1 ?_
    (try simp only [if_pos hc1])
    exact so_Q_holds_j1 (d := d) (ρ := ρ) M0 a1 (16 : Int32) s_M0 hQ
  · skip
    refine ps_brn hc1 ?_
    (try simp only [if_neg hc1])
    exact so_Q_holds_j1 (d := d) (ρ := ρ) M0 a1 (128 : Int32) s_M0 hQ
theorem so_Q_holds {d : Int32} {ρ : Nat → Int32} (M0 : Mem) (a1 : Int32) (s_M0 : SC d ρ M0) : ok_Q_holds M0 a1 ∧ True := sq_Q_holds (d := d) (ρ := ρ) (Q := fun _ => True) M0 a1 s_M0  (fun _ => trivial)
set_option maxRecDepth 100000 in
set_option maxHeartbeats 4000000 in
theorem so_Q_jump_j1 {d : Int32} {ρ : Nat → Int32} {Q : Mem → Prop} (M4 : Mem) (s_M4 : SC d ρ M4) (hQ : ∀ (M' : Mem), SC d ρ M' → Q M') : Q (f_Q_jump_j1_m M4) := by
  unfold f_Q_jump_j1_m
  (try dsimp only)
  exact hQ _ s_M4
set_option maxRecDepth 100000 in
set_option maxHeartbeats 4000000 in
theorem sq_Q_jump {d : Int32} {ρ : Nat → Int32} {Q : Mem → Prop} (M0 : Mem) (a1 : Int32) (a2 : Int32) (s_M0 : SC d ρ M0) (hQ : ∀ (M' : Mem), SC d ρ M' → Q M') : Q (f_Q_jump_m M0 a1 a2) := by
  unfold f_Q_jump_m
  (try dsimp only)
  by_cases hc1 : a1 = 0
  · skip
    (try simp only [if_pos hc1])
    exact so_Q_jump_j1 (d := d) (ρ := ρ) M0 s_M0 hQ
  · skip
    (try simp only [if_neg hc1])
    have s_M5 : SC d ρ (mst M0 5 8 (a2 &&& (65535 : Int32))) := SC.sa s_M0 (by decide)
    generalize e_M5 : mst M0 5 8 (a2 &&& (65535 : Int32)) = M5 at s_M5 ⊢
    have s_M6 : SC d ρ (mst M5 5 10 ((M5 5 10) + (1 : Int32))) := SC.sa s_M5 (by decide)
    generalize e_M6 : mst M5 5 10 ((M5 5 10) + (1 : Int32)) = M6 at s_M6 ⊢
    exact so_Q_jump_j1 (d := d) (ρ := ρ) M6 s_M6 hQ
theorem so_Q_jump {d : Int32} {ρ : Nat → Int32} (M0 : Mem) (a1 : Int32) (a2 : Int32) (s_M0 : SC d ρ M0) : SC d ρ (f_Q_jump_m M0 a1 a2) := sq_Q_jump (d := d) (ρ := ρ) (Q := fun M' => SC d ρ M') M0 a1 a2 s_M0  (fun _ h0 => h0)
set_option maxRecDepth 100000 in
set_option maxHeartbeats 4000000 in
theorem so_Q_pair_j1 {d : Int32} {ρ : Nat → Int32} {Q : Int32 → Prop} (x2 : Int32) (hQ : ∀ (x : Int32), Q x) : Q (f_Q_pair_j1_v x2) := by
  unfold f_Q_pair_j1_v
  (try dsimp only)
  exact hQ _
set_option maxRecDepth 100000 in
set_option maxHeartbeats 4000000 in
theorem sq_Q_pair {d : Int32} {ρ : Nat → Int32} {Q : Int32 → Prop} (M0 : Mem) (a1 : Int32) (s_M0 : SC d ρ M0) (hQ : ∀ (x : Int32), Q x) : ok_Q_pair M0 a1 ∧ Q (f_Q_pair_v M0 a1) := by
  unfold ok_Q_pair f_Q_pair_v
  (try dsimp only)
  by_cases hc1 : a1 = (3 : Int32)
  · skip
    refine ps_nrp hc1 ?_
    refine And.intro trivial ?_
    (try simp only [if_pos hc1])
    exact so_Q_pair_j1 (d := d) (ρ := ρ) (M0 5 7) hQ
  · skip
    refine ps_nrn hc1 ?_
    (try simp only [if_neg hc1])
    refine ps_and (by exact vp_and (by decide)) ?_
    refine And.intro (by exact vp_and (by decide)) ?_
    exact so_Q_pair_j1 (d := d) (ρ := ρ) (((M0 17 ((((2 : Int32) * a1) &&& (7 : Int32))).toNatClampNeg) <<< ((8 : Int32) &&& (31 : Int32))) ||| (M0 17 (((((2 : Int32) * a1) + (1 : Int32)) &&& (7 : Int32))).toNatClampNeg)) hQ
theorem so_Q_pair {d : Int32} {ρ : Nat → Int32} (M0 : Mem) (a1 : Int32) (s_M0 : SC d ρ M0) : ok_Q_pair M0 a1 ∧ True := sq_Q_pair (d := d) (ρ := ρ) (Q := fun _ => True) M0 a1 s_M0  (fun _ => trivial)
set_option maxRecDepth 100000 in
set_option maxHeartbeats 4000000 in
theorem so_Q_addToHl_j2 {d : Int32} {ρ : Nat → Int32} {Q : Mem → Prop} (M0 : Mem) (a1 : Int32) (x1 : Int32) (x11 : Int32) (x16 : Int32) (s_M0 : SC d ρ M0) (hQ : ∀ (M' : Mem), SC d ρ M' → Q M') : ok_Q_addToHl_j2 M0 a1 x1 x11 x16 ∧ Q (f_Q_addToHl_j2_m M0 a1 x1 x11 x16) := by
  unfold ok_Q_addToHl_j2 f_Q_addToHl_j2_m
  (try dsimp only)
  refine ps_let ?_
  have s_M17 : SC d ρ (mst M0 17 6 ((((M0 17 6) &&& (128 : Int32)) ||| x11) ||| x16)) := SC.sa s_M0 (by decide)
  generalize e_M17 : mst M0 17 6 ((((M0 17 6) &&& (128 : Int32)) ||| x11) ||| x16) = M17 at s_M17 ⊢
  have t_ := so_Q_setPair (d := d) (ρ := ρ) M17 (2 : Int32) (x1 + a1) s_M17 
  refine And.intro t_.1 ?_
  replace t_ := t_.2
  generalize e_M18 : f_Q_setPair_m M17 (2 : Int32) (x1 + a1) = M18 at t_ ⊢
  have s_M18 := t_
  have s_M19 : SC d ρ (mst M18 5 10 ((M18 5 10) + (1 : Int32))) := SC.sa s_M18 (by decide)
  generalize e_M19 : mst M18 5 10 ((M18 5 10) + (1 : Int32)) = M19 at s_M19 ⊢
  exact hQ _ s_M19
set_option maxRecDepth 100000 in
set_option maxHeartbeats 4000000 in
theorem so_Q_addToHl_j1 {d : Int32} {ρ : Nat → Int32} {Q : Mem → Prop} (M0 : Mem) (a1 : Int32) (x1 : Int32) (x11 : Int32) (s_M0 : SC d ρ M0) (hQ : ∀ (M' : Mem), SC d ρ M' → Q M') : ok_Q_addToHl_j1 M0 a1 x1 x11 ∧ Q (f_Q_addToHl_j1_m M0 a1 x1 x11) := by
  unfold ok_Q_addToHl_j1 f_Q_addToHl_j1_m
  (try dsimp only)
  by_cases hc1 : (x1 + a1) ≤ (65535 : Int32)
  · skip
    refine ps_brp hc1 ?_
    (try simp only [if_pos hc1])
    exact so_Q_addToHl_j2 (d := d) (ρ := ρ) M0 a1 x1 x11 (0 : Int32) s_M0 hQ
  · skip
    refine ps_brn hc1 ?_
    (try simp only [if_neg hc1])
    exact so_Q_addToHl_j2 (d := d) (ρ := ρ) M0 a1 x1 x11 (16 : Int32) s_M0 hQ
set_option maxRecDepth 100000 in
set_option maxHeartbeats 4000000 in
theorem sq_Q_addToHl {d : Int32} {ρ : Nat → Int32} {Q : Mem → Prop} (M0 : Mem) (a1 : Int32) (s_M0 : SC d ρ M0) (hQ : ∀ (M' : Mem), SC d ρ M' → Q M') : ok_Q_addToHl M0 a1 ∧ Q (f_Q_addToHl_m M0 a1) := by
  unfold ok_Q_addToHl f_Q_addToHl_m
  (try dsimp only)
  have t_ := so_Q_pair (d := d) (ρ := ρ) M0 (2 : Int32) s_M0 
  refine ps_and t_.1 ?_
  replace t_ := t_.2
  refine ps_let ?_
  generalize e_x1 : f_Q_pair_v M0 (2 : Int32) = x1 at t_ ⊢
  by_cases hc1 : ((x1 &&& (4095 : Int32)) + (a1 &&& (4095 : Int32))) ≤ (4095 : Int32)
  · skip
    refine ps_brp hc1 ?_
    (try simp only [if_pos hc1])
    exact so_Q_addToHl_j1 (d := d) (ρ := ρ) M0 a1 x1 (0 : Int32) s_M0 hQ
  · skip
    refine ps_brn hc1 ?_
    (try simp only [if_neg hc1])
    exact so_Q_addToHl_j1 (d := d) (ρ := ρ) M0 a1 x1 (32 : Int32) s_M0 hQ
theorem so_Q_addToHl {d : Int32} {ρ : Nat → Int32} (M0 : Mem) (a1 : Int32) (s_M0 : SC d ρ M0) : ok_Q_addToHl M0 a1 ∧ SC d ρ (f_Q_addToHl_m M0 a1) := sq_Q_addToHl (d := d) (ρ := ρ) (Q := fun M' => SC d ρ M') M0 a1 s_M0  (fun _ h0 => h0)
set_option maxRecDepth 100000 in
set_option maxHeartbeats 4000000 in
theorem so_Q_copyA_j1 {d : Int32} {ρ : Nat → Int32} {Q : Mem → Prop} (M6 : Mem) (s_M6 : SC d ρ M6) (hQ : ∀ (M' : Mem), SC d ρ M' → Q M') : Q (f_Q_copyA_j1_m M6) := by
  unfold f_Q_copyA_j1_m
  (try dsimp only)
  exact hQ _ s_M6
set_option maxRecDepth 100000 in
set_option maxHeartbeats 4000000 in
theorem sq_Q_copyA {d : Int32} {ρ : Nat → Int32} {Q : Mem → Prop} (M0 : Mem) (a1 : Int32) (a2 : Int32) (s_M0 : SC d ρ M0) (hQ : ∀ (M' : Mem), SC d ρ M' → Q M') : ok_Q_copyA M0 a1 a2 ∧ Q (f_Q_copyA_m M0 a1 a2) := by
  unfold ok_Q_copyA f_Q_copyA_m
  (try dsimp only)
  refine ps_let ?_
  have s_M1 : SC d ρ (mst M0 5 10 ((M0 5 10) + (1 : Int32))) := SC.sa s_M0 (by decide)
  generalize e_M1 : mst M0 5 10 ((M0 5 10) + (1 : Int32)) = M1 at s_M1 ⊢
  by_cases hc1 : a2 = 0
  · skip
    refine ps_brp hc1 ?_
    (try simp only [if_pos hc1])
    have t_ := so_Y_store (d := d) (ρ := ρ) M1 a1 (M1 17 7) s_M1 
    refine And.intro t_.1 ?_
    replace t_ := t_.2
    generalize e_M7 : f_Y_store_m M1 a1 (M1 17 7) = M7 at t_ ⊢
    have s_M7 := t_
    exact so_Q_copyA_j1 (d := d) (ρ := ρ) M7 s_M7 hQ
  · skip
    refine ps_brn hc1 ?_
    (try simp only [if_neg hc1])
    have t_ := so_Y_load (d := d) (ρ := ρ) M1 a1 s_M1 
    refine And.intro t_.1 ?_
    replace t_ := t_.2
    generalize e_x8 : f_Y_load_v M1 a1 = x8 at t_ ⊢
    have s_M9 : SC d ρ (mst M1 17 7 x8) := SC.sa s_M1 (by decide)
    generalize e_M9 : mst M1 17 7 x8 = M9 at s_M9 ⊢
    exact so_Q_copyA_j1 (d := d) (ρ := ρ) M9 s_M9 hQ
theorem so_Q_copyA {d : Int32} {ρ : Nat → Int32} (M0 : Mem) (a1 : Int32) (a2 : Int32) (s_M0 : SC d ρ M0) : ok_Q_copyA M0 a1 a2 ∧ SC d ρ (f_Q_copyA_m M0 a1 a2) := sq_Q_copyA (d := d) (ρ := ρ) (Q := fun M' => SC d ρ M') M0 a1 a2 s_M0  (fun _ h0 => h0)
set_option maxRecDepth 100000 in
set_option maxHeartbeats 4000000 in
theorem sq_Q_octetAt {d : Int32} {ρ : Nat → Int32} {Q : Int32 → Mem → Prop} (M0 : Mem) (a1 : Int32) (s_M0 : SC d ρ M0) (hQ : ∀ (x : Int32) (M' : Mem), SC d ρ M' → Q x M') : ok_Q_octetAt M0 a1 ∧ Q (f_Q_octetAt_v M0 a1) (f_Q_octetAt_m M0 a1) := by
  unfold ok_Q_octetAt f_Q_octetAt_v f_Q_octetAt_m
  (try dsimp only)
  by_cases hc1 : a1 = (6 : Int32)
  · skip
    refine ps_brp hc1 ?_
    (try simp only [if_pos hc1])
    refine ps_let ?_
    have s_M1 : SC d ρ (mst M0 5 10 ((M0 5 10) + (1 : Int32))) := SC.sa s_M0 (by decide)
    generalize e_M1 : mst M0 5 10 ((M0 5 10) + (1 : Int32)) = M1 at s_M1 ⊢
    have t_ := so_Q_pair (d := d) (ρ := ρ) M1 (2 : Int32) s_M1 
    refine ps_and t_.1 ?_
    replace t_ := t_.2
    refine ps_let ?_
    generalize e_x2 : f_Q_pair_v M1 (2 : Int32) = x2 at t_ ⊢
    have t_ := so_Y_load (d := d) (ρ := ρ) M1 x2 s_M1 
    refine And.intro t_.1 ?_
    replace t_ := t_.2
    generalize e_x3 : f_Y_load_v M1 x2 = x3 at t_ ⊢
    exact hQ _ _ s_M1
  · skip
    refine ps_brn hc1 ?_
    (try simp only [if_neg hc1])
    refine And.intro (by exact vp_and (by decide)) ?_
    exact hQ _ _ s_M0
theorem so_Q_octetAt {d : Int32} {ρ : Nat → Int32} (M0 : Mem) (a1 : Int32) (s_M0 : SC d ρ M0) : ok_Q_octetAt M0 a1 ∧ SC d ρ (f_Q_octetAt_m M0 a1) := sq_Q_octetAt (d := d) (ρ := ρ) (Q := fun _ M' => SC d ρ M') M0 a1 s_M0  (fun _ _ h0 => h0)
set_option maxRecDepth 100000 in
set_option maxHeartbeats 4000000 in
theorem so_Q_zero_j1 {d : Int32} {ρ : Nat → Int32} {Q : Int32 → Prop} (x2 : Int32) (hQ : ∀ (x : Int32), Q x) : Q (f_Q_zero_j1_v x2) := by
  unfold f_Q_zero_j1_v
  (try dsimp only)
  exact hQ _
set_option maxRecDepth 100000 in
set_option maxHeartbeats 4000000 in
theorem sq_Q_zero {d : Int32} {ρ : Nat → Int32} {Q : Int32 → Prop} (M0 : Mem) (a1 : Int32) (s_M0 : SC d ρ M0) (hQ : ∀ (x : Int32), Q x) : Q (f_Q_zero_v M0 a1) := by
  unfold f_Q_zero_v
  (try dsimp only)
  by_cases hc1 : a1 = 0
  · skip
    (try simp only [if_pos hc1])
    exact so_Q_zero_j1 (d := d) (ρ := ρ) (128 : Int32) hQ
  · skip
    (try simp only [if_neg hc1])
    exact so_Q_zero_j1 (d := d) (ρ := ρ) (0 : Int32) hQ
theorem so_Q_zero {d : Int32} {ρ : Nat → Int32} (M0 : Mem) (a1 : Int32) (s_M0 : SC d ρ M0) : True := sq_Q_zero (d := d) (ρ := ρ) (Q := fun _ => True) M0 a1 s_M0  (fun _ => trivial)
set_option maxRecDepth 100000 in
set_option maxHeartbeats 4000000 in
theorem so_Q_increased_j1 {d : Int32} {ρ : Nat → Int32} {Q : Int32 → Mem → Prop} (M0 : Mem) (x1 : Int32) (x2 : Int32) (x5 : Int32) (s_M0 : SC d ρ M0) (hQ : ∀ (x : Int32) (M' : Mem), SC d ρ M' → Q x M') : Q (f_Q_increased_j1_v M0 x1 x2 x5) (f_Q_increased_j1_m M0 x1 x2 x5) := by
  unfold f_Q_increased_j1_v f_Q_increased_j1_m
  (try dsimp only)
  have s_M6 : SC d ρ (mst M0 17 6 ((((M0 17 6) &&& (16 : Int32)) ||| x2) ||| x5)) := SC.sa s_M0 (by decide)
  generalize e_M6 : mst M0 17 6 ((((M0 17 6) &&& (16 : Int32)) ||| x2) ||| x5) = M6 at s_M6 ⊢
  exact hQ _ _ s_M6
set_option maxRecDepth 100000 in
set_option maxHeartbeats 4000000 in
theorem sq_Q_increased {d : Int32} {ρ : Nat → Int32} {Q : Int32 → Mem → Prop} (M0 : Mem) (a1 : Int32) (s_M0 : SC d ρ M0) (hQ : ∀ (x : Int32) (M' : Mem), SC d ρ M' → Q x M') : Q (f_Q_increased_v M0 a1) (f_Q_increased_m M0 a1) := by
  unfold f_Q_increased_v f_Q_increased_m
  (try dsimp only)
  generalize e_x1 : ((a1 + (1 : Int32)) &&& (255 : Int32)) = x1
  have t_ := so_Q_zero (d := d) (ρ := ρ) M0 x1 s_M0 
  generalize e_x2 : f_Q_zero_v M0 x1 = x2 at t_ ⊢
  by_cases hc1 : (x1 &&& (15 : Int32)) = 0
  · skip
    (try simp only [if_pos hc1])
    exact so_Q_increased_j1 (d := d) (ρ := ρ) M0 x1 x2 (32 : Int32) s_M0 hQ
  · skip
    (try simp only [if_neg hc1])
    exact so_Q_increased_j1 (d := d) (ρ := ρ) M0 x1 x2 (0 : Int32) s_M0 hQ
theorem so_Q_increased {d : Int32} {ρ : Nat → Int32} (M0 : Mem) (a1 : Int32) (s_M0 : SC d ρ M0) : SC d ρ (f_Q_increased_m M0 a1) := sq_Q_increased (d := d) (ρ := ρ) (Q := fun _ M' => SC d ρ M') M0 a1 s_M0  (fun _ _ h0 => h0)
set_option maxRecDepth 100000 in
set_option maxHeartbeats 4000000 in
theorem sq_Q_setOctet {d : Int32} {ρ : Nat → Int32} {Q : Mem → Prop} (M0 : Mem) (a1 : Int32) (a2 : Int32) (s_M0 : SC d ρ M0) (hQ : ∀ (M' : Mem), SC d ρ M' → Q M') : ok_Q_setOctet M0 a1 a2 ∧ Q (f_Q_setOctet_m M0 a1 a2) := by
  unfold ok_Q_setOctet f_Q_setOctet_m
  (try dsimp only)
  by_cases hc1 : a1 = (6 : Int32)
  · skip
    refine ps_brp hc1 ?_
    (try simp only [if_pos hc1])
    refine ps_let ?_
    have s_M1 : SC d ρ (mst M0 5 10 ((M0 5 10) + (1 : Int32))) := SC.sa s_M0 (by decide)
    generalize e_M1 : mst M0 5 10 ((M0 5 10) + (1 : Int32)) = M1 at s_M1 ⊢
    have t_ := so_Q_pair (d := d) (ρ := ρ) M1 (2 : Int32) s_M1 
    refine ps_and t_.1 ?_
    replace t_ := t_.2
    refine ps_let ?_
    generalize e_x2 : f_Q_pair_v M1 (2 : Int32) = x2 at t_ ⊢
    have t_ := so_Y_store (d := d) (ρ := ρ) M1 x2 a2 s_M1 
    refine And.intro t_.1 ?_
    replace t_ := t_.2
    generalize e_M3 : f_Y_store_m M1 x2 a2 = M3 at t_ ⊢
    have s_M3 := t_
    exact hQ _ s_M3
  · skip
    refine ps_brn hc1 ?_
    (try simp only [if_neg hc1])
    refine And.intro (by exact vp_and (by decide)) ?_
    have s_M4 : SC d ρ (mst M0 17 ((a1 &&& (7 : Int32))).toNatClampNeg a2) := SC.sa s_M0 (by decide)
    generalize e_M4 : mst M0 17 ((a1 &&& (7 : Int32))).toNatClampNeg a2 = M4 at s_M4 ⊢
    exact hQ _ s_M4
theorem so_Q_setOctet {d : Int32} {ρ : Nat → Int32} (M0 : Mem) (a1 : Int32) (a2 : Int32) (s_M0 : SC d ρ M0) : ok_Q_setOctet M0 a1 a2 ∧ SC d ρ (f_Q_setOctet_m M0 a1 a2) := sq_Q_setOctet (d := d) (ρ := ρ) (Q := fun M' => SC d ρ M') M0 a1 a2 s_M0  (fun _ h0 => h0)
set_option maxRecDepth 100000 in
set_option maxHeartbeats 4000000 in
theorem so_Q_decreased_j1 {d : Int32} {ρ : Nat → Int32} {Q : Int32 → Mem → Prop} (M0 : Mem) (x1 : Int32) (x2 : Int32) (x5 : Int32) (s_M0 : SC d ρ M0) (hQ : ∀ (x : Int32) (M' : Mem), SC d ρ M' → Q x M') : Q (f_Q_decreased_j1_v M0 x1 x2 x5) (f_Q_decreased_j1_m M0 x1 x2 x5) := by
  unfold f_Q_decreased_j1_v f_Q_decreased_j1_m
  (try dsimp only)
  have s_M6 : SC d ρ (mst M0 17 6 (((((M0 17 6) &&& (16 : Int32)) ||| (64 : Int32)) ||| x2) ||| x5)) := SC.sa s_M0 (by decide)
  generalize e_M6 : mst M0 17 6 (((((M0 17 6) &&& (16 : Int32)) ||| (64 : Int32)) ||| x2) ||| x5) = M6 at s_M6 ⊢
  exact hQ _ _ s_M6
set_option maxRecDepth 100000 in
set_option maxHeartbeats 4000000 in
theorem sq_Q_decreased {d : Int32} {ρ : Nat → Int32} {Q : Int32 → Mem → Prop} (M0 : Mem) (a1 : Int32) (s_M0 : SC d ρ M0) (hQ : ∀ (x : Int32) (M' : Mem), SC d ρ M' → Q x M') : Q (f_Q_decreased_v M0 a1) (f_Q_decreased_m M0 a1) := by
  unfold f_Q_decreased_v f_Q_decreased_m
  (try dsimp only)
  generalize e_x1 : ((a1 - (1 : Int32)) &&& (255 : Int32)) = x1
  have t_ := so_Q_zero (d := d) (ρ := ρ) M0 x1 s_M0 
  generalize e_x2 : f_Q_zero_v M0 x1 = x2 at t_ ⊢
  by_cases hc1 : (x1 &&& (15 : Int32)) = (15 : Int32)
  · skip
    (try simp only [if_pos hc1])
    exact so_Q_decreased_j1 (d := d) (ρ := ρ) M0 x1 x2 (32 : Int32) s_M0 hQ
  · skip
    (try simp only [if_neg hc1])
    exact so_Q_decreased_j1 (d := d) (ρ := ρ) M0 x1 x2 (0 : Int32) s_M0 hQ
theorem so_Q_decreased {d : Int32} {ρ : Nat → Int32} (M0 : Mem) (a1 : Int32) (s_M0 : SC d ρ M0) : SC d ρ (f_Q_decreased_m M0 a1) := sq_Q_decreased (d := d) (ρ := ρ) (Q := fun _ M' => SC d ρ M') M0 a1 s_M0  (fun _ _ h0 => h0)
set_option maxRecDepth 100000 in
set_option maxHeartbeats 4000000 in
theorem so_Q_adjustDecimal_j4 {d : Int32} {ρ : Nat → Int32} {Q : Mem → Prop} (x2 : Int32) (M291 : Mem) (x292 : Int32) (x295 : Int32) (s_M291 : SC d ρ M291) (hQ : ∀ (M' : Mem), SC d ρ M' → Q M') : Q (f_Q_adjustDecimal_j4_m x2 M291 x292 x295) := by
  unfold f_Q_adjustDecimal_j4_m
  (try dsimp only)
  have s_M296 : SC d ρ (mst M291 17 6 ((x292 ||| (x2 &&& (64 : Int32))) ||| x295)) := SC.sa s_M291 (by decide)
  generalize e_M296 : mst M291 17 6 ((x292 ||| (x2 &&& (64 : Int32))) ||| x295) = M296 at s_M296 ⊢
  exact hQ _ s_M296
set_option maxRecDepth 100000 in
set_option maxHeartbeats 4000000 in
theorem so_Q_adjustDecimal_j3 {d : Int32} {ρ : Nat → Int32} {Q : Mem → Prop} (M0 : Mem) (x1 : Int32) (x2 : Int32) (x289 : Int32) (x290 : Int32) (s_M0 : SC d ρ M0) (hQ : ∀ (M' : Mem), SC d ρ M' → Q M') : Q (f_Q_adjustDecimal_j3_m M0 x1 x2 x289 x290) := by
  unfold f_Q_adjustDecimal_j3_m
  (try dsimp only)
  have s_M291 : SC d ρ (mst M0 17 7 ((x1 + x290) &&& (255 : Int32))) := SC.sa s_M0 (by decide)
  generalize e_M291 : mst M0 17 7 ((x1 + x290) &&& (255 : Int32)) = M291 at s_M291 ⊢
  have t_ := so_Q_zero (d := d) (ρ := ρ) M291 (M291 17 7) s_M291 
  generalize e_x292 : f_Q_zero_v M291 (M291 17 7) = x292 at t_ ⊢
  by_cases hc1 : x289 = 0
  · skip
    (try simp only [if_pos hc1])
    exact so_Q_adjustDecimal_j4 (d := d) (ρ := ρ) x2 M291 x292 (0 : Int32) s_M291 hQ
  · skip
    (try simp only [if_neg hc1])
    exact so_Q_adjustDecimal_j4 (d := d) (ρ := ρ) x2 M291 x292 (16 : Int32) s_M291 hQ
set_option maxRecDepth 100000 in
set_option maxHeartbeats 4000000 in
theorem so_Q_adjustDecimal_j7 {d : Int32} {ρ : Nat → Int32} {Q : Mem → Prop} (M0 : Mem) (x1 : Int32) (x2 : Int32) (x308 : Int32) (x314 : Int32) (x317 : Int32) (s_M0 : SC d ρ M0) (hQ : ∀ (M' : Mem), SC d ρ M' → Q M') : Q (f_Q_adjustDecimal_j7_m M0 x1 x2 x308 x314 x317) := by
  unfold f_Q_adjustDecimal_j7_m
  (try dsimp only)
  generalize e_x318 : (x314 + x317) = x318
  exact so_Q_adjustDecimal_j3 (d := d) (ρ := ρ) M0 x1 x2 x308 x318 s_M0 hQ
set_option maxRecDepth 100000 in
set_option maxHeartbeats 4000000 in
theorem so_Q_adjustDecimal_j8 {d : Int32} {ρ : Nat → Int32} {Q : Mem → Prop} (M0 : Mem) (x1 : Int32) (x2 : Int32) (x308 : Int32) (x314 : Int32) (s_M0 : SC d ρ M0) (hQ : ∀ (M' : Mem), SC d ρ M' → Q M') : Q (f_Q_adjustDecimal_j8_m M0 x1 x2 x308 x314) := by
  unfold f_Q_adjustDecimal_j8_m
  (try dsimp only)
  exact so_Q_adjustDecimal_j7 (d := d) (ρ := ρ) M0 x1 x2 x308 x314 (6 : Int32) s_M0 hQ
set_option maxRecDepth 100000 in
set_option maxHeartbeats 4000000 in
theorem so_Q_adjustDecimal_j6 {d : Int32} {ρ : Nat → Int32} {Q : Mem → Prop} (M0 : Mem) (x1 : Int32) (x2 : Int32) (x248 : Int32) (x308 : Int32) (x314 : Int32) (s_M0 : SC d ρ M0) (hQ : ∀ (M' : Mem), SC d ρ M' → Q M') : Q (f_Q_adjustDecimal_j6_m M0 x1 x2 x248 x308 x314) := by
  unfold f_Q_adjustDecimal_j6_m
  (try dsimp only)
  by_cases hc1 : x248 = 0
  · skip
    (try simp only [if_pos hc1])
    by_cases hc2 : (x1 &&& (15 : Int32)) ≤ (9 : Int32)
    · skip
      (try simp only [if_pos hc2])
      exact so_Q_adjustDecimal_j7 (d := d) (ρ := ρ) M0 x1 x2 x308 x314 (0 : Int32) s_M0 hQ
    · skip
      (try simp only [if_neg hc2])
      exact so_Q_adjustDecimal_j8 (d := d) (ρ := ρ) M0 x1 x2 x308 x314 s_M0 hQ
  · skip
    (try simp only [if_neg hc1])
    exact so_Q_adjustDecimal_j8 (d := d) (ρ := ρ) M0 x1 x2 x308 x314 s_M0 hQ
set_option maxRecDepth 100000 in
set_option maxHeartbeats 4000000 in
theorem so_Q_adjustDecimal_j5 {d : Int32} {ρ : Nat → Int32} {Q : Mem → Prop} (M0 : Mem) (x1 : Int32) (x2 : Int32) (x248 : Int32) (x308 : Int32) (s_M0 : SC d ρ M0) (hQ : ∀ (M' : Mem), SC d ρ M' → Q M') : Q (f_Q_adjustDecimal_j5_m M0 x1 x2 x248 x308) := by
  unfold f_Q_adjustDecimal_j5_m
  (try dsimp only)
  by_cases hc1 : x308 = 0
  · skip
    (try simp only [if_pos hc1])
    exact so_Q_adjustDecimal_j6 (d := d) (ρ := ρ) M0 x1 x2 x248 x308 (0 : Int32) s_M0 hQ
  · skip
    (try simp only [if_neg hc1])
    exact so_Q_adjustDecimal_j6 (d := d) (ρ := ρ) M0 x1 x2 x248 x308 (96 : Int32) s_M0 hQ
set_option maxRecDepth 100000 in
set_option maxHeartbeats 4000000 in
theorem so_Q_adjustDecimal_j9 {d : Int32} {ρ : Nat → Int32} {Q : Mem → Prop} (M0 : Mem) (x1 : Int32) (x2 : Int32) (x248 : Int32) (s_M0 : SC d ρ M0) (hQ : ∀ (M' : Mem), SC d ρ M' → Q M') : Q (f_Q_adjustDecimal_j9_m M0 x1 x2 x248) := by
  unfold f_Q_adjustDecimal_j9_m
  (try dsimp only)
  exact so_Q_adjustDecimal_j5 (d := d) (ρ := ρ) M0 x1 x2 x248 (1 : Int32) s_M0 hQ
set_option maxRecDepth 100000 in
set_option maxHeartbeats 4000000 in
theorem so_Q_adjustDecimal_j11 {d : Int32} {ρ : Nat → Int32} {Q : Mem → Prop} (M0 : Mem) (x1 : Int32) (x2 : Int32) (x166 : Int32) (x324 : Int32) (x327 : Int32) (s_M0 : SC d ρ M0) (hQ : ∀ (M' : Mem), SC d ρ M' → Q M') : Q (f_Q_adjustDecimal_j11_m M0 x1 x2 x166 x324 x327) := by
  unfold f_Q_adjustDecimal_j11_m
  (try dsimp only)
  generalize e_x328 : (x324 + x327) = x328
  exact so_Q_adjustDecimal_j3 (d := d) (ρ := ρ) M0 x1 x2 x166 x328 s_M0 hQ
set_option maxRecDepth 100000 in
set_option maxHeartbeats 4000000 in
theorem so_Q_adjustDecimal_j10 {d : Int32} {ρ : Nat → Int32} {Q : Mem → Prop} (M0 : Mem) (x1 : Int32) (x2 : Int32) (x166 : Int32) (x248 : Int32) (x324 : Int32) (s_M0 : SC d ρ M0) (hQ : ∀ (M' : Mem), SC d ρ M' → Q M') : Q (f_Q_adjustDecimal_j10_m M0 x1 x2 x166 x248 x324) := by
  unfold f_Q_adjustDecimal_j10_m
  (try dsimp only)
  by_cases hc1 : x248 = 0
  · skip
    (try simp only [if_pos hc1])
    exact so_Q_adjustDecimal_j11 (d := d) (ρ := ρ) M0 x1 x2 x166 x324 (0 : Int32) s_M0 hQ
  · skip
    (try simp only [if_neg hc1])
    exact so_Q_adjustDecimal_j11 (d := d) (ρ := ρ) M0 x1 x2 x166 x324 (-6 : Int32) s_M0 hQ
set_option maxRecDepth 100000 in
set_option maxHeartbeats 4000000 in
theorem so_Q_adjustDecimal_j2 {d : Int32} {ρ : Nat → Int32} {Q : Mem → Prop} (M0 : Mem) (x1 : Int32) (x2 : Int32) (x166 : Int32) (x248 : Int32) (s_M0 : SC d ρ M0) (hQ : ∀ (M' : Mem), SC d ρ M' → Q M') : Q (f_Q_adjustDecimal_j2_m M0 x1 x2 x166 x248) := by
  unfold f_Q_adjustDecimal_j2_m
  (try dsimp only)
  by_cases hc1 : (x2 &&& (64 : Int32)) = 0
  · skip
    (try simp only [if_pos hc1])
    by_cases hc2 : x166 = 0
    · skip
      (try simp only [if_pos hc2])
      by_cases hc3 : x1 ≤ (153 : Int32)
      · skip
        (try simp only [if_pos hc3])
        exact so_Q_adjustDecimal_j5 (d := d) (ρ := ρ) M0 x1 x2 x248 (0 : Int32) s_M0 hQ
      · skip
        (try simp only [if_neg hc3])
        exact so_Q_adjustDecimal_j9 (d := d) (ρ := ρ) M0 x1 x2 x248 s_M0 hQ
    · skip
      (try simp only [if_neg hc2])
      exact so_Q_adjustDecimal_j9 (d := d) (ρ := ρ) M0 x1 x2 x248 s_M0 hQ
  · skip
    (try simp only [if_neg hc1])
    by_cases hc2 : x166 = 0
    · skip
      (try simp only [if_pos hc2])
      exact so_Q_adjustDecimal_j10 (d := d) (ρ := ρ) M0 x1 x2 x166 x248 (0 : Int32) s_M0 hQ
    · skip
      (try simp only [if_neg hc2])
      exact so_Q_adjustDecimal_j10 (d := d) (ρ := ρ) M0 x1 x2 x166 x248 (-96 : Int32) s_M0 hQ
set_option maxRecDepth 100000 in
set_option maxHeartbeats 4000000 in
theorem so_Q_adjustDecimal_j1 {d : Int32} {ρ : Nat → Int32} {Q : Mem → Prop} (M0 : Mem) (x1 : Int32) (x2 : Int32) (x166 : Int32) (s_M0 : SC d ρ M0) (hQ : ∀ (M' : Mem), SC d ρ M' → Q M') : Q (f_Q_adjustDecimal_j1_m M0 x1 x2 x166) := by
  unfold f_Q_adjustDecimal_j1_m
  (try dsimp only)
  by_cases hc1 : (x2 &&& (32 : Int32)) = 0
  · skip
    (try simp only [if_pos hc1])
    exact so_Q_adjustDecimal_j2 (d := d) (ρ := ρ) M0 x1 x2 x166 (0 : Int32) s_M0 hQ
  · skip
    (try simp only [if_neg hc1])
    exact so_Q_adjustDecimal_j2 (d := d) (ρ := ρ) M0 x1 x2 x166 (1 : Int32) s_M0 hQ
set_option maxRecDepth 100000 in
set_option maxHeartbeats 4000000 in
theorem sq_Q_adjustDecimal {d : Int32} {ρ : Nat → Int32} {Q : Mem → Prop} (M0 : Mem) (s_M0 : SC d ρ M0) (hQ : ∀ (M' : Mem), SC d ρ M' → Q M') : Q (f_Q_adjustDecimal_m M0) := by
  unfold f_Q_adjustDecimal_m
  (try dsimp only)
  generalize e_x1 : (M0 17 7) = x1
  generalize e_x2 : (M0 17 6) = x2
  by_cases hc1 : (x2 &&& (16 : Int32)) = 0
  · skip
    (try simp only [if_pos hc1])
    exact so_Q_adjustDecimal_j1 (d := d) (ρ := ρ) M0 x1 x2 (0 : Int32) s_M0 hQ
  · skip
    (try simp only [if_neg hc1])
    exact so_Q_adjustDecimal_j1 (d := d) (ρ := ρ) M0 x1 x2 (1 : Int32) s_M0 hQ
theorem so_Q_adjustDecimal {d : Int32} {ρ : Nat → Int32} (M0 : Mem) (s_M0 : SC d ρ M0) : SC d ρ (f_Q_adjustDecimal_m M0) := sq_Q_adjustDecimal (d := d) (ρ := ρ) (Q := fun M' => SC d ρ M') M0 s_M0  (fun _ h0 => h0)
set_option maxRecDepth 100000 in
set_option maxHeartbeats 4000000 in
theorem so_Q_shifted_j5 {d : Int32} {ρ : Nat → Int32} {Q : Int32 → Mem → Prop} (M0 : Mem) (x241 : Int32) (x242 : Int32) (x245 : Int32) (s_M0 : SC d ρ M0) (hQ : ∀ (x : Int32) (M' : Mem), SC d ρ M' → Q x M') : Q (f_Q_shifted_j5_v M0 x241 x242 x245) (f_Q_shifted_j5_m M0 x241 x242 x245) := by
  unfold f_Q_shifted_j5_v f_Q_shifted_j5_m
  (try dsimp only)
  have s_M246 : SC d ρ (mst M0 17 6 (x242 ||| x245)) := SC.sa s_M0 (by decide)
  generalize e_M246 : mst M0 17 6 (x242 ||| x245) = M246 at s_M246 ⊢
  exact hQ _ _ s_M246
set_option maxRecDepth 100000 in
set_option maxHeartbeats 4000000 in
theorem so_Q_shifted_j4 {d : Int32} {ρ : Nat → Int32} {Q : Int32 → Mem → Prop} (M0 : Mem) (x240 : Int32) (x241 : Int32) (s_M0 : SC d ρ M0) (hQ : ∀ (x : Int32) (M' : Mem), SC d ρ M' → Q x M') : Q (f_Q_shifted_j4_v M0 x240 x241) (f_Q_shifted_j4_m M0 x240 x241) := by
  unfold f_Q_shifted_j4_v f_Q_shifted_j4_m
  (try dsimp only)
  have t_ := so_Q_zero (d := d) (ρ := ρ) M0 (x241 &&& (255 : Int32)) s_M0 
  generalize e_x242 : f_Q_zero_v M0 (x241 &&& (255 : Int32)) = x242 at t_ ⊢
  by_cases hc1 : x240 = 0
  · skip
    (try simp only [if_pos hc1])
    exact so_Q_shifted_j5 (d := d) (ρ := ρ) M0 x241 x242 (0 : Int32) s_M0 hQ
  · skip
    (try simp only [if_neg hc1])
    exact so_Q_shifted_j5 (d := d) (ρ := ρ) M0 x241 x242 (16 : Int32) s_M0 hQ
set_option maxRecDepth 100000 in
set_option maxHeartbeats 4000000 in
theorem so_Q_shifted_j3 {d : Int32} {ρ : Nat → Int32} {Q : Int32 → Mem → Prop} (M0 : Mem) (a1 : Int32) (a2 : Int32) (x128 : Int32) (x224 : Int32) (s_M0 : SC d ρ M0) (hQ : ∀ (x : Int32) (M' : Mem), SC d ρ M' → Q x M') : Q (f_Q_shifted_j3_v M0 a1 a2 x128 x224) (f_Q_shifted_j3_m M0 a1 a2 x128 x224) := by
  unfold f_Q_shifted_j3_v f_Q_shifted_j3_m
  (try dsimp only)
  by_cases hc1 : (a1 = (0 : Int32))
  · skip
    (try simp only [if_pos hc1])
    generalize e_x247 : ((a2 <<< ((1 : Int32) &&& (31 : Int32))) ||| x224) = x247
    exact so_Q_shifted_j4 (d := d) (ρ := ρ) M0 x224 x247 s_M0 hQ
  · skip
    (try simp only [if_neg hc1])
    by_cases hc2 : (a1 = (1 : Int32))
    · skip
      (try simp only [if_pos hc2])
      generalize e_x248 : ((a2 >>> ((1 : Int32) &&& (31 : Int32))) ||| (x224 <<< ((7 : Int32) &&& (31 : Int32)))) = x248
      exact so_Q_shifted_j4 (d := d) (ρ := ρ) M0 x224 x248 s_M0 hQ
    · skip
      (try simp only [if_neg hc2])
      by_cases hc3 : (a1 = (2 : Int32))
      · skip
        (try simp only [if_pos hc3])
        generalize e_x249 : ((a2 <<< ((1 : Int32) &&& (31 : Int32))) ||| x128) = x249
        exact so_Q_shifted_j4 (d := d) (ρ := ρ) M0 x224 x249 s_M0 hQ
      · skip
        (try simp only [if_neg hc3])
        by_cases hc4 : (a1 = (3 : Int32))
        · skip
          (try simp only [if_pos hc4])
          generalize e_x250 : ((a2 >>> ((1 : Int32) &&& (31 : Int32))) ||| (x128 <<< ((7 : Int32) &&& (31 : Int32)))) = x250
          exact so_Q_shifted_j4 (d := d) (ρ := ρ) M0 x224 x250 s_M0 hQ
        · skip
          (try simp only [if_neg hc4])
          by_cases hc5 : (a1 = (4 : Int32))
          · skip
            (try simp only [if_pos hc5])
            generalize e_x251 : (a2 <<< ((1 : Int32) &&& (31 : Int32))) = x251
            exact so_Q_shifted_j4 (d := d) (ρ := ρ) M0 x224 x251 s_M0 hQ
          · skip
            (try simp only [if_neg hc5])
            by_cases hc6 : (a1 = (5 : Int32))
            · skip
              (try simp only [if_pos hc6])
              generalize e_x252 : ((a2 >>> ((1 : Int32) &&& (31 : Int32))) ||| (a2 &&& (128 : Int32))) = x252
              exact so_Q_shifted_j4 (d := d) (ρ := ρ) M0 x224 x252 s_M0 hQ
            · skip
              (try simp only [if_neg hc6])
              by_cases hc7 : (a1 = (6 : Int32))
              · skip
                (try simp only [if_pos hc7])
                generalize e_x253 : ((a2 >>> ((4 : Int32) &&& (31 : Int32))) ||| (a2 <<< ((4 : Int32) &&& (31 : Int32)))) = x253
                exact so_Q_shifted_j4 (d := d) (ρ := ρ) M0 (0 : Int32) x253 s_M0 hQ
              · skip
                (try simp only [if_neg hc7])
                generalize e_x254 : (a2 >>> ((1 : Int32) &&& (31 : Int32))) = x254
                exact so_Q_shifted_j4 (d := d) (ρ := ρ) M0 x224 x254 s_M0 hQ
set_option maxRecDepth 100000 in
set_option maxHeartbeats 4000000 in
theorem so_Q_shifted_j2 {d : Int32} {ρ : Nat → Int32} {Q : Int32 → Mem → Prop} (M0 : Mem) (a1 : Int32) (a2 : Int32) (x128 : Int32) (x192 : Int32) (s_M0 : SC d ρ M0) (hQ : ∀ (x : Int32) (M' : Mem), SC d ρ M' → Q x M') : Q (f_Q_shifted_j2_v M0 a1 a2 x128 x192) (f_Q_shifted_j2_m M0 a1 a2 x128 x192) := by
  unfold f_Q_shifted_j2_v f_Q_shifted_j2_m
  (try dsimp only)
  by_cases hc1 : x192 = 0
  · skip
    (try simp only [if_pos hc1])
    exact so_Q_shifted_j3 (d := d) (ρ := ρ) M0 a1 a2 x128 (a2 &&& (1 : Int32)) s_M0 hQ
  · skip
    (try simp only [if_neg hc1])
    exact so_Q_shifted_j3 (d := d) (ρ := ρ) M0 a1 a2 x128 (a2 >>> ((7 : Int32) &&& (31 : Int32))) s_M0 hQ
set_option maxRecDepth 100000 in
set_option maxHeartbeats 4000000 in
theorem so_Q_shifted_j6 {d : Int32} {ρ : Nat → Int32} {Q : Int32 → Mem → Prop} (M0 : Mem) (a1 : Int32) (a2 : Int32) (x128 : Int32) (s_M0 : SC d ρ M0) (hQ : ∀ (x : Int32) (M' : Mem), SC d ρ M' → Q x M') : Q (f_Q_shifted_j6_v M0 a1 a2 x128) (f_Q_shifted_j6_m M0 a1 a2 x128) := by
  unfold f_Q_shifted_j6_v f_Q_shifted_j6_m
  (try dsimp only)
  exact so_Q_shifted_j2 (d := d) (ρ := ρ) M0 a1 a2 x128 (1 : Int32) s_M0 hQ
set_option maxRecDepth 100000 in
set_option maxHeartbeats 4000000 in
theorem so_Q_shifted_j1 {d : Int32} {ρ : Nat → Int32} {Q : Int32 → Mem → Prop} (M0 : Mem) (a1 : Int32) (a2 : Int32) (x128 : Int32) (s_M0 : SC d ρ M0) (hQ : ∀ (x : Int32) (M' : Mem), SC d ρ M' → Q x M') : Q (f_Q_shifted_j1_v M0 a1 a2 x128) (f_Q_shifted_j1_m M0 a1 a2 x128) := by
  unfold f_Q_shifted_j1_v f_Q_shifted_j1_m
  (try dsimp only)
  by_cases hc1 : a1 = 0
  · skip
    (try simp only [if_pos hc1])
    exact so_Q_shifted_j6 (d := d) (ρ := ρ) M0 a1 a2 x128 s_M0 hQ
  · skip
    (try simp only [if_neg hc1])
    by_cases hc2 : a1 = (2 : Int32)
    · skip
      (try simp only [if_pos hc2])
      exact so_Q_shifted_j6 (d := d) (ρ := ρ) M0 a1 a2 x128 s_M0 hQ
    · skip
      (try simp only [if_neg hc2])
      by_cases hc3 : a1 = (4 : Int32)
      · skip
        (try simp only [if_pos hc3])
        exact so_Q_shifted_j6 (d := d) (ρ := ρ) M0 a1 a2 x128 s_M0 hQ
      · skip
        (try simp only [if_neg hc3])
        exact so_Q_shifted_j2 (d := d) (ρ := ρ) M0 a1 a2 x128 (0 : Int32) s_M0 hQ
set_option maxRecDepth 100000 in
set_option maxHeartbeats 4000000 in
theorem sq_Q_shifted {d : Int32} {ρ : Nat → Int32} {Q : Int32 → Mem → Prop} (M0 : Mem) (a1 : Int32) (a2 : Int32) (s_M0 : SC d ρ M0) (hQ : ∀ (x : Int32) (M' : Mem), SC d ρ M' → Q x M') : Q (f_Q_shifted_v M0 a1 a2) (f_Q_shifted_m M0 a1 a2) := by
  unfold f_Q_shifted_v f_Q_shifted_m
  (try dsimp only)
  by_cases hc1 : ((M0 17 6) &&& (16 : Int32)) = 0
  · skip
    (try simp only [if_pos hc1])
    exact so_Q_shifted_j1 (d := d) (ρ := ρ) M0 a1 a2 (0 : Int32) s_M0 hQ
  · skip
    (try simp only [if_neg hc1])
    exact so_Q_shifted_j1 (d := d) (ρ := ρ) M0 a1 a2 (1 : Int32) s_M0 hQ
theorem so_Q_shifted {d : Int32} {ρ : Nat → Int32} (M0 : Mem) (a1 : Int32) (a2 : Int32) (s_M0 : SC d ρ M0) : SC d ρ (f_Q_shifted_m M0 a1 a2) := sq_Q_shifted (d := d) (ρ := ρ) (Q := fun _ M' => SC d ρ M') M0 a1 a2 s_M0  (fun _ _ h0 => h0)
set_option maxRecDepth 100000 in
set_option maxHeartbeats 4000000 in
theorem so_Q_changeA_j1 {d : Int32} {ρ : Nat → Int32} {Q : Mem → Prop} (M12 : Mem) (s_M12 : SC d ρ M12) (hQ : ∀ (M' : Mem), SC d ρ M' → Q M') : Q (f_Q_changeA_j1_m M12) := by
  unfold f_Q_changeA_j1_m
  (try dsimp only)
  exact hQ _ s_M12
set_option maxRecDepth 100000 in
set_option maxHeartbeats 4000000 in
theorem sq_Q_changeA {d : Int32} {ρ : Nat → Int32} {Q : Mem → Prop} (M0 : Mem) (a1 : Int32) (s_M0 : SC d ρ M0) (hQ : ∀ (M' : Mem), SC d ρ M' → Q M') : Q (f_Q_changeA_m M0 a1) := by
  unfold f_Q_changeA_m
  (try dsimp only)
  generalize e_x1 : (M0 17 6) = x1
  by_cases hc1 : (a1 = (4 : Int32))
  · skip
    (try simp only [if_pos hc1])
    have t_ := so_Q_adjustDecimal (d := d) (ρ := ρ) M0 s_M0 
    generalize e_M13 : f_Q_adjustDecimal_m M0 = M13 at t_ ⊢
    have s_M13 := t_
    exact so_Q_changeA_j1 (d := d) (ρ := ρ) M13 s_M13 hQ
  · skip
    (try simp only [if_neg hc1])
    by_cases hc2 : (a1 = (5 : Int32))
    · skip
      (try simp only [if_pos hc2])
      have s_M14 : SC d ρ (mst M0 17 7 ((M0 17 7) ^^^ (255 : Int32))) := SC.sa s_M0 (by decide)
      generalize e_M14 : mst M0 17 7 ((M0 17 7) ^^^ (255 : Int32)) = M14 at s_M14 ⊢
      have s_M15 : SC d ρ (mst M14 17 6 ((x1 ||| (64 : Int32)) ||| (32 : Int32))) := SC.sa s_M14 (by decide)
      generalize e_M15 : mst M14 17 6 ((x1 ||| (64 : Int32)) ||| (32 : Int32)) = M15 at s_M15 ⊢
      exact so_Q_changeA_j1 (d := d) (ρ := ρ) M15 s_M15 hQ
    · skip
      (try simp only [if_neg hc2])
      by_cases hc3 : (a1 = (6 : Int32))
      · skip
        (try simp only [if_pos hc3])
        have s_M16 : SC d ρ (mst M0 17 6 ((x1 &&& (128 : Int32)) ||| (16 : Int32))) := SC.sa s_M0 (by decide)
        generalize e_M16 : mst M0 17 6 ((x1 &&& (128 : Int32)) ||| (16 : Int32)) = M16 at s_M16 ⊢
        exact so_Q_changeA_j1 (d := d) (ρ := ρ) M16 s_M16 hQ
      · skip
        (try simp only [if_neg hc3])
        by_cases hc4 : (a1 = (7 : Int32))
        · skip
          (try simp only [if_pos hc4])
          have s_M17 : SC d ρ (mst M0 17 6 ((x1 &&& (144 : Int32)) ^^^ (16 : Int32))) := SC.sa s_M0 (by decide)
          generalize e_M17 : mst M0 17 6 ((x1 &&& (144 : Int32)) ^^^ (16 : Int32)) = M17 at s_M17 ⊢
          exact so_Q_changeA_j1 (d := d) (ρ := ρ) M17 s_M17 hQ
        · skip
          (try simp only [if_neg hc4])
          have t_ := so_Q_shifted (d := d) (ρ := ρ) M0 a1 (M0 17 7) s_M0 
          generalize e_x18 : f_Q_shifted_v M0 a1 (M0 17 7) = x18 at t_ ⊢
          generalize e_M19 : f_Q_shifted_m M0 a1 (M0 17 7) = M19 at t_ ⊢
          have s_M19 := t_
          have s_M20 : SC d ρ (mst M19 17 7 x18) := SC.sa s_M19 (by decide)
          generalize e_M20 : mst M19 17 7 x18 = M20 at s_M20 ⊢
          have s_M21 : SC d ρ (mst M20 17 6 ((M20 17 6) &&& (16 : Int32))) := SC.sa s_M20 (by decide)
          generalize e_M21 : mst M20 17 6 ((M20 17 6) &&& (16 : Int32)) = M21 at s_M21 ⊢
          exact so_Q_changeA_j1 (d := d) (ρ := ρ) M21 s_M21 hQ
theorem so_Q_changeA {d : Int32} {ρ : Nat → Int32} (M0 : Mem) (a1 : Int32) (s_M0 : SC d ρ M0) : SC d ρ (f_Q_changeA_m M0 a1) := sq_Q_changeA (d := d) (ρ := ρ) (Q := fun M' => SC d ρ M') M0 a1 s_M0  (fun _ h0 => h0)
set_option maxRecDepth 100000 in
set_option maxHeartbeats 4000000 in
theorem so_Q_doLow_j2 {d : Int32} {ρ : Nat → Int32} {Q : Mem → Prop} (M151 : Mem) (s_M151 : SC d ρ M151) (hQ : ∀ (M' : Mem), SC d ρ M' → Q M') : Q (f_Q_doLow_j2_m M151) := by
  unfold f_Q_doLow_j2_m
  (try dsimp only)
  exact hQ _ s_M151
set_option maxRecDepth 100000 in
set_option maxHeartbeats 4000000 in
theorem so_Q_doLow_j3 {d : Int32} {ρ : Nat → Int32} {Q : Mem → Prop} (M153 : Mem) (x154 : Int32) (x158 : Int32) (s_M153 : SC d ρ M153) (hQ : ∀ (M' : Mem), SC d ρ M' → Q M') : Q (f_Q_doLow_j3_m M153 x154 x158) := by
  unfold f_Q_doLow_j3_m
  (try dsimp only)
  have t_ := so_Q_jump (d := d) (ρ := ρ) M153 x158 ((M153 5 8) + x154) s_M153 
  generalize e_M159 : f_Q_jump_m M153 x158 ((M153 5 8) + x154) = M159 at t_ ⊢
  have s_M159 := t_
  exact so_Q_doLow_j2 (d := d) (ρ := ρ) M159 s_M159 hQ
set_option maxRecDepth 100000 in
set_option maxHeartbeats 4000000 in
theorem so_Q_doLow_j4 {d : Int32} {ρ : Nat → Int32} {Q : Mem → Prop} (M153 : Mem) (x154 : Int32) (s_M153 : SC d ρ M153) (hQ : ∀ (M' : Mem), SC d ρ M' → Q M') : Q (f_Q_doLow_j4_m M153 x154) := by
  unfold f_Q_doLow_j4_m
  (try dsimp only)
  exact so_Q_doLow_j3 (d := d) (ρ := ρ) M153 x154 (1 : Int32) s_M153 hQ
set_option maxRecDepth 100000 in
set_option maxHeartbeats 4000000 in
theorem so_Q_doLow_j5 {d : Int32} {ρ : Nat → Int32} {Q : Mem → Prop} (M173 : Mem) (x174 : Int32) (x177 : Int32) (s_M173 : SC d ρ M173) (hQ : ∀ (M' : Mem), SC d ρ M' → Q M') : ok_Q_doLow_j5 M173 x174 x177 ∧ Q (f_Q_doLow_j5_m M173 x174 x177) := by
  unfold ok_Q_doLow_j5 f_Q_doLow_j5_m
  (try dsimp only)
  have t_ := so_Q_setPair (d := d) (ρ := ρ) M173 (2 : Int32) (x174 + x177) s_M173 
  refine And.intro t_.1 ?_
  replace t_ := t_.2
  generalize e_M178 : f_Q_setPair_m M173 (2 : Int32) (x174 + x177) = M178 at t_ ⊢
  have s_M178 := t_
  exact so_Q_doLow_j2 (d := d) (ρ := ρ) M178 s_M178 hQ
set_option maxRecDepth 100000 in
set_option maxHeartbeats 4000000 in
theorem so_Q_doLow_j6 {d : Int32} {ρ : Nat → Int32} {Q : Mem → Prop} (M0 : Mem) (x1 : Int32) (x179 : Int32) (x183 : Int32) (s_M0 : SC d ρ M0) (hQ : ∀ (M' : Mem), SC d ρ M' → Q M') : ok_Q_doLow_j6 M0 x1 x179 x183 ∧ Q (f_Q_doLow_j6_m M0 x1 x179 x183) := by
  unfold ok_Q_doLow_j6 f_Q_doLow_j6_m
  (try dsimp only)
  have t_ := so_Q_setPair (d := d) (ρ := ρ) M0 x1 (x179 + x183) s_M0 
  refine And.intro t_.1 ?_
  replace t_ := t_.2
  generalize e_M184 : f_Q_setPair_m M0 x1 (x179 + x183) = M184 at t_ ⊢
  have s_M184 := t_
  have s_M185 : SC d ρ (mst M184 5 10 ((M184 5 10) + (1 : Int32))) := SC.sa s_M184 (by decide)
  generalize e_M185 : mst M184 5 10 ((M184 5 10) + (1 : Int32)) = M185 at s_M185 ⊢
  exact so_Q_doLow_j2 (d := d) (ρ := ρ) M185 s_M185 hQ
set_option maxRecDepth 100000 in
set_option maxHeartbeats 4000000 in
theorem so_Q_doLow_j1 {d : Int32} {ρ : Nat → Int32} {Q : Mem → Prop} (M0 : Mem) (a1 : Int32) (a2 : Int32) (x1 : Int32) (x101 : Int32) (s_M0 : SC d ρ M0) (hQ : ∀ (M' : Mem), SC d ρ M' → Q M') : ok_Q_doLow_j1 M0 a1 a2 x1 x101 ∧ Q (f_Q_doLow_j1_m M0 a1 a2 x1 x101) := by
  unfold ok_Q_doLow_j1 f_Q_doLow_j1_m
  (try dsimp only)
  by_cases hc1 : (a2 = (0 : Int32))
  · skip
    refine ps_brp hc1 ?_
    (try simp only [if_pos hc1])
    by_cases hc2 : a1 = (1 : Int32)
    · skip
      refine ps_nrp hc2 ?_
      (try simp only [if_pos hc2])
      have t_ := so_Q_fetchWord (d := d) (ρ := ρ) M0 s_M0 
      refine ps_and t_.1 ?_
      replace t_ := t_.2
      refine ps_let ?_
      refine ps_let ?_
      generalize e_x164 : f_Q_fetchWord_v M0 = x164 at t_ ⊢
      generalize e_M165 : f_Q_fetchWord_m M0 = M165 at t_ ⊢
      have s_M165 := t_
      have t_ := so_Q_storeStackPointer (d := d) (ρ := ρ) M165 x164 s_M165 
      refine And.intro t_.1 ?_
      replace t_ := t_.2
      generalize e_M166 : f_Q_storeStackPointer_m M165 x164 = M166 at t_ ⊢
      have s_M166 := t_
      exact so_Q_doLow_j2 (d := d) (ρ := ρ) M166 s_M166 hQ
    · skip
      refine ps_nrn hc2 ?_
      (try simp only [if_neg hc2])
      by_cases hc3 : a1 = (2 : Int32)
      · skip
        refine ps_nrp hc3 ?_
        (try simp only [if_pos hc3])
        have t_ := so_Q_fetch (d := d) (ρ := ρ) M0 s_M0 
        refine And.intro t_.1 ?_
        replace t_ := t_.2
        generalize e_x161 : f_Q_fetch_v M0 = x161 at t_ ⊢
        generalize e_M162 : f_Q_fetch_m M0 = M162 at t_ ⊢
        have s_M162 := t_
        have t_ := so_P_clearDivider (d := d) (ρ := ρ) M162 s_M162 
        generalize e_M163 : f_P_clearDivider_m M162 = M163 at t_ ⊢
        have s_M163 := t_
        exact so_Q_doLow_j2 (d := d) (ρ := ρ) M163 s_M163 hQ
      · skip
        refine ps_nrn hc3 ?_
        (try simp only [if_neg hc3])
        by_cases hc4 : a1 < (3 : Int32)
        · skip
          refine ps_brp hc4 ?_
          refine And.intro trivial ?_
          (try simp only [if_pos hc4])
          exact so_Q_doLow_j2 (d := d) (ρ := ρ) M0 s_M0 hQ
        · skip
          refine ps_brn hc4 ?_
          (try simp only [if_neg hc4])
          have t_ := so_Q_fetch (d := d) (ρ := ρ) M0 s_M0 
          refine ps_and t_.1 ?_
          replace t_ := t_.2
          refine ps_let ?_
          refine ps_let ?_
          generalize e_x152 : f_Q_fetch_v M0 = x152 at t_ ⊢
          generalize e_M153 : f_Q_fetch_m M0 = M153 at t_ ⊢
          have s_M153 := t_
          refine ps_let ?_
          generalize e_x154 : (x152.toInt8.toInt32) = x154
          by_cases hc5 : a1 = (3 : Int32)
          · skip
            refine ps_brp hc5 ?_
            refine And.intro trivial ?_
            (try simp only [if_pos hc5])
            exact so_Q_doLow_j4 (d := d) (ρ := ρ) M153 x154 s_M153 hQ
          · skip
            refine ps_brn hc5 ?_
            (try simp only [if_neg hc5])
            have t_ := so_Q_holds (d := d) (ρ := ρ) M153 (a1 - (4 : Int32)) s_M153 
            refine And.intro t_.1 ?_
            replace t_ := t_.2
            generalize e_x160 : f_Q_holds_v M153 (a1 - (4 : Int32)) = x160 at t_ ⊢
            by_cases hc6 : x160 = 0
            · skip
              (try simp only [if_pos hc6])
              exact so_Q_doLow_j3 (d := d) (ρ := ρ) M153 x154 (0 : Int32) s_M153 hQ
            · skip
              (try simp only [if_neg hc6])
              exact so_Q_doLow_j4 (d := d) (ρ := ρ) M153 x154 s_M153 hQ
  · skip
    refine ps_brn hc1 ?_
    (try simp only [if_neg hc1])
    by_cases hc2 : (a2 = (1 : Int32))
    · skip
      refine ps_brp hc2 ?_
      (try simp only [if_pos hc2])
      by_cases hc3 : x101 = 0
      · skip
        refine ps_brp hc3 ?_
        (try simp only [if_pos hc3])
        have t_ := so_Q_fetchWord (d := d) (ρ := ρ) M0 s_M0 
        refine ps_and t_.1 ?_
        replace t_ := t_.2
        refine ps_let ?_
        refine ps_let ?_
        generalize e_x167 : f_Q_fetchWord_v M0 = x167 at t_ ⊢
        generalize e_M168 : f_Q_fetchWord_m M0 = M168 at t_ ⊢
        have s_M168 := t_
        have t_ := so_Q_setPair (d := d) (ρ := ρ) M168 x1 x167 s_M168 
        refine And.intro t_.1 ?_
        replace t_ := t_.2
        generalize e_M169 : f_Q_setPair_m M168 x1 x167 = M169 at t_ ⊢
        have s_M169 := t_
        exact so_Q_doLow_j2 (d := d) (ρ := ρ) M169 s_M169 hQ
      · skip
        refine ps_brn hc3 ?_
        (try simp only [if_neg hc3])
        have t_ := so_Q_pair (d := d) (ρ := ρ) M0 x1 s_M0 
        refine ps_and t_.1 ?_
        replace t_ := t_.2
        refine ps_let ?_
        generalize e_x170 : f_Q_pair_v M0 x1 = x170 at t_ ⊢
        have t_ := so_Q_addToHl (d := d) (ρ := ρ) M0 x170 s_M0 
        refine And.intro t_.1 ?_
        replace t_ := t_.2
        generalize e_M171 : f_Q_addToHl_m M0 x170 = M171 at t_ ⊢
        have s_M171 := t_
        exact so_Q_doLow_j2 (d := d) (ρ := ρ) M171 s_M171 hQ
    · skip
      refine ps_brn hc2 ?_
      (try simp only [if_neg hc2])
      by_cases hc3 : (a2 = (2 : Int32))
      · skip
        refine ps_brp hc3 ?_
        (try simp only [if_pos hc3])
        have t_ := so_Q_pair (d := d) (ρ := ρ) M0 (if (2 : Int32) < x1 then (2 : Int32) else x1) s_M0 
        refine ps_and t_.1 ?_
        replace t_ := t_.2
        refine ps_let ?_
        generalize e_x172 : f_Q_pair_v M0 (if (2 : Int32) < x1 then (2 : Int32) else x1) = x172 at t_ ⊢
        have t_ := so_Q_copyA (d := d) (ρ := ρ) M0 x172 x101 s_M0 
        refine ps_and t_.1 ?_
        replace t_ := t_.2
        refine ps_let ?_
        generalize e_M173 : f_Q_copyA_m M0 x172 x101 = M173 at t_ ⊢
        have s_M173 := t_
        by_cases hc4 : x1 < (2 : Int32)
        · skip
          refine ps_brp hc4 ?_
          refine And.intro trivial ?_
          (try simp only [if_pos hc4])
          exact so_Q_doLow_j2 (d := d) (ρ := ρ) M173 s_M173 hQ
        · skip
          refine ps_brn hc4 ?_
          (try simp only [if_neg hc4])
          have t_ := so_Q_pair (d := d) (ρ := ρ) M173 (2 : Int32) s_M173 
          refine ps_and t_.1 ?_
          replace t_ := t_.2
          refine ps_let ?_
          generalize e_x174 : f_Q_pair_v M173 (2 : Int32) = x174 at t_ ⊢
          by_cases hc5 : x1 = (2 : Int32)
          · skip
            refine ps_nrp hc5 ?_
            (try simp only [if_pos hc5])
            exact so_Q_doLow_j5 (d := d) (ρ := ρ) M173 x174 (1 : Int32) s_M173 hQ
          · skip
            refine ps_nrn hc5 ?_
            (try simp only [if_neg hc5])
            exact so_Q_doLow_j5 (d := d) (ρ := ρ) M173 x174 (-1 : Int32) s_M173 hQ
      · skip
        refine ps_brn hc3 ?_
        (try simp only [if_neg hc3])
        by_cases hc4 : (a2 = (3 : Int32))
        · skip
          refine ps_brp hc4 ?_
          (try simp only [if_pos hc4])
          have t_ := so_Q_pair (d := d) (ρ := ρ) M0 x1 s_M0 
          refine ps_and t_.1 ?_
          replace t_ := t_.2
          refine ps_let ?_
          generalize e_x179 : f_Q_pair_v M0 x1 = x179 at t_ ⊢
          by_cases hc5 : x101 = 0
          · skip
            refine ps_brp hc5 ?_
            (try simp only [if_pos hc5])
            exact so_Q_doLow_j6 (d := d) (ρ := ρ) M0 x1 x179 (1 : Int32) s_M0 hQ
          · skip
            refine ps_brn hc5 ?_
            (try simp only [if_neg hc5])
            exact so_Q_doLow_j6 (d := d) (ρ := ρ) M0 x1 x179 (-1 : Int32) s_M0 hQ
        · skip
          refine ps_brn hc4 ?_
          (try simp only [if_neg hc4])
          by_cases hc5 : (a2 = (4 : Int32))
          · skip
            refine ps_brp hc5 ?_
            (try simp only [if_pos hc5])
            have t_ := so_Q_octetAt (d := d) (ρ := ρ) M0 a1 s_M0 
            refine ps_and t_.1 ?_
            replace t_ := t_.2
            refine ps_let ?_
            refine ps_let ?_
            generalize e_x186 : f_Q_octetAt_v M0 a1 = x186 at t_ ⊢
            generalize e_M187 : f_Q_octetAt_m M0 a1 = M187 at t_ ⊢
            have s_M187 := t_
            have t_ := so_Q_increased (d := d) (ρ := ρ) M187 x186 s_M187 
            refine ps_let ?_
            refine ps_let ?_
            generalize e_x188 : f_Q_increased_v M187 x186 = x188 at t_ ⊢
            generalize e_M189 : f_Q_increased_m M187 x186 = M189 at t_ ⊢
            have s_M189 := t_
            have t_ := so_Q_setOctet (d := d) (ρ := ρ) M189 a1 x188 s_M189 
            refine And.intro t_.1 ?_
            replace t_ := t_.2
            generalize e_M190 : f_Q_setOctet_m M189 a1 x188 = M190 at t_ ⊢
            have s_M190 := t_
            exact so_Q_doLow_j2 (d := d) (ρ := ρ) M190 s_M190 hQ
          · skip
            refine ps_brn hc5 ?_
            (try simp only [if_neg hc5])
            by_cases hc6 : (a2 = (5 : Int32))
            · skip
              refine ps_brp hc6 ?_
              (try simp only [if_pos hc6])
              have t_ := so_Q_octetAt (d := d) (ρ := ρ) M0 a1 s_M0 
              refine ps_and t_.1 ?_
              replace t_ := t_.2
              refine ps_let ?_
              refine ps_let ?_
              generalize e_x191 : f_Q_octetAt_v M0 a1 = x191 at t_ ⊢
              generalize e_M192 : f_Q_octetAt_m M0 a1 = M192 at t_ ⊢
              have s_M192 := t_
              have t_ := so_Q_decreased (d := d) (ρ := ρ) M192 x191 s_M192 
              refine ps_let ?_
              refine ps_let ?_
              generalize e_x193 : f_Q_decreased_v M192 x191 = x193 at t_ ⊢
              generalize e_M194 : f_Q_decreased_m M192 x191 = M194 at t_ ⊢
              have s_M194 := t_
              have t_ := so_Q_setOctet (d := d) (ρ := ρ) M194 a1 x193 s_M194 
              refine And.intro t_.1 ?_
              replace t_ := t_.2
              generalize e_M195 : f_Q_setOctet_m M194 a1 x193 = M195 at t_ ⊢
              have s_M195 := t_
              exact so_Q_doLow_j2 (d := d) (ρ := ρ) M195 s_M195 hQ
            · skip
              refine ps_brn hc6 ?_
              (try simp only [if_neg hc6])
              by_cases hc7 : (a2 = (6 : Int32))
              · skip
                refine ps_brp hc7 ?_
                (try simp only [if_pos hc7])
                have t_ := so_Q_fetch (d := d) (ρ := ρ) M0 s_M0 
                refine ps_and t_.1 ?_
                replace t_ := t_.2
                refine ps_let ?_
                refine ps_let ?_
                generalize e_x196 : f_Q_fetch_v M0 = x196 at t_ ⊢
                generalize e_M197 : f_Q_fetch_m M0 = M197 at t_ ⊢
                have s_M197 := t_
                have t_ := so_Q_setOctet (d := d) (ρ := ρ) M197 a1 x196 s_M197 
                refine And.intro t_.1 ?_
                replace t_ := t_.2
                generalize e_M198 : f_Q_setOctet_m M197 a1 x196 = M198 at t_ ⊢
                have s_M198 := t_
                exact so_Q_doLow_j2 (d := d) (ρ := ρ) M198 s_M198 hQ
              · skip
                refine ps_brn hc7 ?_
                refine And.intro trivial ?_
                (try simp only [if_neg hc7])
                have t_ := so_Q_changeA (d := d) (ρ := ρ) M0 a1 s_M0 
                generalize e_M199 : f_Q_changeA_m M0 a1 = M199 at t_ ⊢
                have s_M199 := t_
                exact so_Q_doLow_j2 (d := d) (ρ := ρ) M199 s_M199 hQ
set_option maxRecDepth 100000 in
set_option maxHeartbeats 4000000 in
theorem sq_Q_doLow {d : Int32} {ρ : Nat → Int32} {Q : Mem → Prop} (M0 : Mem) (a1 : Int32) (a2 : Int32) (s_M0 : SC d ρ M0) (hQ : ∀ (M' : Mem), SC d ρ M' → Q M') : ok_Q_doLow M0 a1 a2 ∧ Q (f_Q_doLow_m M0 a1 a2) := by
  unfold ok_Q_doLow f_Q_doLow_m
  (try dsimp only)
  refine ps_let ?_
  generalize e_x1 : (a1 >>> ((1 : Int32) &&& (31 : Int32))) = x1
  by_cases hc1 : (a1 &&& (1 : Int32)) = 0
  · skip
    refine ps_brp hc1 ?_
    (try simp only [if_pos hc1])
    exact so_Q_doLow_j1 (d := d) (ρ := ρ) M0 a1 a2 x1 (0 : Int32) s_M0 hQ
  · skip
    refine ps_brn hc1 ?_
    (try simp only [if_neg hc1])
    exact so_Q_doLow_j1 (d := d) (ρ := ρ) M0 a1 a2 x1 (1 : Int32) s_M0 hQ
theorem so_Q_doLow {d : Int32} {ρ : Nat → Int32} (M0 : Mem) (a1 : Int32) (a2 : Int32) (s_M0 : SC d ρ M0) : ok_Q_doLow M0 a1 a2 ∧ SC d ρ (f_Q_doLow_m M0 a1 a2) := sq_Q_doLow (d := d) (ρ := ρ) (Q := fun M' => SC d ρ M') M0 a1 a2 s_M0  (fun _ h0 => h0)
set_option maxRecDepth 100000 in
set_option maxHeartbeats 4000000 in
theorem so_Q_doCopy_j1 {d : Int32} {ρ : Nat → Int32} {Q : Mem → Prop} (M6 : Mem) (s_M6 : SC d ρ M6) (hQ : ∀ (M' : Mem), SC d ρ M' → Q M') : Q (f_Q_doCopy_j1_m M6) := by
  unfold f_Q_doCopy_j1_m
  (try dsimp only)
  exact hQ _ s_M6
set_option maxRecDepth 100000 in
set_option maxHeartbeats 4000000 in
theorem so_Q_doCopy_j2 {d : Int32} {ρ : Nat → Int32} {Q : Mem → Prop} (M0 : Mem) (a1 : Int32) (a2 : Int32) (s_M0 : SC d ρ M0) (hQ : ∀ (M' : Mem), SC d ρ M' → Q M') : ok_Q_doCopy_j2 M0 a1 a2 ∧ Q (f_Q_doCopy_j2_m M0 a1 a2) := by
  unfold ok_Q_doCopy_j2 f_Q_doCopy_j2_m
  (try dsimp only)
  have t_ := so_Q_octetAt (d := d) (ρ := ρ) M0 a2 s_M0 
  refine ps_and t_.1 ?_
  replace t_ := t_.2
  refine ps_let ?_
  refine ps_let ?_
  generalize e_x7 : f_Q_octetAt_v M0 a2 = x7 at t_ ⊢
  generalize e_M8 : f_Q_octetAt_m M0 a2 = M8 at t_ ⊢
  have s_M8 := t_
  have t_ := so_Q_setOctet (d := d) (ρ := ρ) M8 a1 x7 s_M8 
  refine And.intro t_.1 ?_
  replace t_ := t_.2
  generalize e_M9 : f_Q_setOctet_m M8 a1 x7 = M9 at t_ ⊢
  have s_M9 := t_
  exact so_Q_doCopy_j1 (d := d) (ρ := ρ) M9 s_M9 hQ
set_option maxRecDepth 100000 in
set_option maxHeartbeats 4000000 in
theorem sq_Q_doCopy {d : Int32} {ρ : Nat → Int32} {Q : Mem → Prop} (M0 : Mem) (a1 : Int32) (a2 : Int32) (s_M0 : SC d ρ M0) (hQ : ∀ (M' : Mem), SC d ρ M' → Q M') : ok_Q_doCopy M0 a1 a2 ∧ Q (f_Q_doCopy_m M0 a1 a2) := by
  unfold ok_Q_doCopy f_Q_doCopy_m
  (try dsimp only)
  by_cases hc1 : a1 = (6 : Int32)
  · skip
    refine ps_nrp hc1 ?_
    (try simp only [if_pos hc1])
    by_cases hc2 : a2 = (6 : Int32)
    · skip
      refine ps_nrp hc2 ?_
      refine And.intro trivial ?_
      (try simp only [if_pos hc2])
      have s_M10 : SC d ρ (mst M0 5 4 (1 : Int32)) := SC.sa s_M0 (by decide)
      generalize e_M10 : mst M0 5 4 (1 : Int32) = M10 at s_M10 ⊢
      exact so_Q_doCopy_j1 (d := d) (ρ := ρ) M10 s_M10 hQ
    · skip
      refine ps_nrn hc2 ?_
      (try simp only [if_neg hc2])
      exact so_Q_doCopy_j2 (d := d) (ρ := ρ) M0 a1 a2 s_M0 hQ
  · skip
    refine ps_nrn hc1 ?_
    (try simp only [if_neg hc1])
    exact so_Q_doCopy_j2 (d := d) (ρ := ρ) M0 a1 a2 s_M0 hQ
theorem so_Q_doCopy {d : Int32} {ρ : Nat → Int32} (M0 : Mem) (a1 : Int32) (a2 : Int32) (s_M0 : SC d ρ M0) : ok_Q_doCopy M0 a1 a2 ∧ SC d ρ (f_Q_doCopy_m M0 a1 a2) := sq_Q_doCopy (d := d) (ρ := ρ) (Q := fun M' => SC d ρ M') M0 a1 a2 s_M0  (fun _ h0 => h0)
set_option maxRecDepth 100000 in
set_option maxHeartbeats 4000000 in
theorem so_Q_add_j2 {d : Int32} {ρ : Nat → Int32} {Q : Mem → Prop} (x10 : Int32) (M11 : Mem) (x12 : Int32) (x15 : Int32) (s_M11 : SC d ρ M11) (hQ : ∀ (M' : Mem), SC d ρ M' → Q M') : Q (f_Q_add_j2_m x10 M11 x12 x15) := by
  unfold f_Q_add_j2_m
  (try dsimp only)
  have s_M16 : SC d ρ (mst M11 17 6 ((x12 ||| x10) ||| x15)) := SC.sa s_M11 (by decide)
  generalize e_M16 : mst M11 17 6 ((x12 ||| x10) ||| x15) = M16 at s_M16 ⊢
  exact hQ _ s_M16
set_option maxRecDepth 100000 in
set_option maxHeartbeats 4000000 in
theorem so_Q_add_j1 {d : Int32} {ρ : Nat → Int32} {Q : Mem → Prop} (M0 : Mem) (x2 : Int32) (x10 : Int32) (s_M0 : SC d ρ M0) (hQ : ∀ (M' : Mem), SC d ρ M' → Q M') : Q (f_Q_add_j1_m M0 x2 x10) := by
  unfold f_Q_add_j1_m
  (try dsimp only)
  have s_M11 : SC d ρ (mst M0 17 7 (x2 &&& (255 : Int32))) := SC.sa s_M0 (by decide)
  generalize e_M11 : mst M0 17 7 (x2 &&& (255 : Int32)) = M11 at s_M11 ⊢
  have t_ := so_Q_zero (d := d) (ρ := ρ) M11 (x2 &&& (255 : Int32)) s_M11 
  generalize e_x12 : f_Q_zero_v M11 (x2 &&& (255 : Int32)) = x12 at t_ ⊢
  by_cases hc1 : x2 ≤ (255 : Int32)
  · skip
    (try simp only [if_pos hc1])
    exact so_Q_add_j2 (d := d) (ρ := ρ) x10 M11 x12 (0 : Int32) s_M11 hQ
  · skip
    (try simp only [if_neg hc1])
    exact so_Q_add_j2 (d := d) (ρ := ρ) x10 M11 x12 (16 : Int32) s_M11 hQ
set_option maxRecDepth 100000 in
set_option maxHeartbeats 4000000 in
theorem sq_Q_add {d : Int32} {ρ : Nat → Int32} {Q : Mem → Prop} (M0 : Mem) (a1 : Int32) (a2 : Int32) (s_M0 : SC d ρ M0) (hQ : ∀ (M' : Mem), SC d ρ M' → Q M') : Q (f_Q_add_m M0 a1 a2) := by
  unfold f_Q_add_m
  (try dsimp only)
  generalize e_x1 : (M0 17 7) = x1
  generalize e_x2 : ((x1 + a1) + a2) = x2
  by_cases hc1 : (((x1 &&& (15 : Int32)) + (a1 &&& (15 : Int32))) + a2) ≤ (15 : Int32)
  · skip
    (try simp only [if_pos hc1])
    exact so_Q_add_j1 (d := d) (ρ := ρ) M0 x2 (0 : Int32) s_M0 hQ
  · skip
    (try simp only [if_neg hc1])
    exact so_Q_add_j1 (d := d) (ρ := ρ) M0 x2 (32 : Int32) s_M0 hQ
theorem so_Q_add {d : Int32} {ρ : Nat → Int32} (M0 : Mem) (a1 : Int32) (a2 : Int32) (s_M0 : SC d ρ M0) : SC d ρ (f_Q_add_m M0 a1 a2) := sq_Q_add (d := d) (ρ := ρ) (Q := fun M' => SC d ρ M') M0 a1 a2 s_M0  (fun _ h0 => h0)
set_option maxRecDepth 100000 in
set_option maxHeartbeats 4000000 in
theorem so_Q_difference_j2 {d : Int32} {ρ : Nat → Int32} {Q : Int32 → Mem → Prop} (M0 : Mem) (x2 : Int32) (x9 : Int32) (x10 : Int32) (x13 : Int32) (s_M0 : SC d ρ M0) (hQ : ∀ (x : Int32) (M' : Mem), SC d ρ M' → Q x M') : Q (f_Q_difference_j2_v M0 x2 x9 x10 x13) (f_Q_difference_j2_m M0 x2 x9 x10 x13) := by
  unfold f_Q_difference_j2_v f_Q_difference_j2_m
  (try dsimp only)
  have s_M14 : SC d ρ (mst M0 17 6 (((x10 ||| (64 : Int32)) ||| x9) ||| x13)) := SC.sa s_M0 (by decide)
  generalize e_M14 : mst M0 17 6 (((x10 ||| (64 : Int32)) ||| x9) ||| x13) = M14 at s_M14 ⊢
  exact hQ _ _ s_M14
set_option maxRecDepth 100000 in
set_option maxHeartbeats 4000000 in
theorem so_Q_difference_j1 {d : Int32} {ρ : Nat → Int32} {Q : Int32 → Mem → Prop} (M0 : Mem) (x2 : Int32) (x9 : Int32) (s_M0 : SC d ρ M0) (hQ : ∀ (x : Int32) (M' : Mem), SC d ρ M' → Q x M') : Q (f_Q_difference_j1_v M0 x2 x9) (f_Q_difference_j1_m M0 x2 x9) := by
  unfold f_Q_difference_j1_v f_Q_difference_j1_m
  (try dsimp only)
  have t_ := so_Q_zero (d := d) (ρ := ρ) M0 (x2 &&& (255 : Int32)) s_M0 
  generalize e_x10 : f_Q_zero_v M0 (x2 &&& (255 : Int32)) = x10 at t_ ⊢
  by_cases hc1 : 0 ≤ x2
  · skip
    (try simp only [if_pos hc1])
    exact so_Q_difference_j2 (d := d) (ρ := ρ) M0 x2 x9 x10 (0 : Int32) s_M0 hQ
  · skip
    (try simp only [if_neg hc1])
    exact so_Q_difference_j2 (d := d) (ρ := ρ) M0 x2 x9 x10 (16 : Int32) s_M0 hQ
set_option maxRecDepth 100000 in
set_option maxHeartbeats 4000000 in
theorem sq_Q_difference {d : Int32} {ρ : Nat → Int32} {Q : Int32 → Mem → Prop} (M0 : Mem) (a1 : Int32) (a2 : Int32) (s_M0 : SC d ρ M0) (hQ : ∀ (x : Int32) (M' : Mem), SC d ρ M' → Q x M') : Q (f_Q_difference_v M0 a1 a2) (f_Q_difference_m M0 a1 a2) := by
  unfold f_Q_difference_v f_Q_difference_m
  (try dsimp only)
  generalize e_x1 : (M0 17 7) = x1
  generalize e_x2 : ((x1 - a1) - a2) = x2
  by_cases hc1 : 0 ≤ (((x1 &&& (15 : Int32)) - (a1 &&& (15 : Int32))) - a2)
  · skip
    (try simp only [if_pos hc1])
    exact so_Q_difference_j1 (d := d) (ρ := ρ) M0 x2 (0 : Int32) s_M0 hQ
  · skip
    (try simp only [if_neg hc1])
    exact so_Q_difference_j1 (d := d) (ρ := ρ) M0 x2 (32 : Int32) s_M0 hQ
theorem so_Q_difference {d : Int32} {ρ : Nat → Int32} (M0 : Mem) (a1 : Int32) (a2 : Int32) (s_M0 : SC d ρ M0) : SC d ρ (f_Q_difference_m M0 a1 a2) := sq_Q_difference (d := d) (ρ := ρ) (Q := fun _ M' => SC d ρ M') M0 a1 a2 s_M0  (fun _ _ h0 => h0)
set_option maxRecDepth 100000 in
set_option maxHeartbeats 4000000 in
theorem sq_Q_setLogic {d : Int32} {ρ : Nat → Int32} {Q : Mem → Prop} (M0 : Mem) (a1 : Int32) (a2 : Int32) (s_M0 : SC d ρ M0) (hQ : ∀ (M' : Mem), SC d ρ M' → Q M') : Q (f_Q_setLogic_m M0 a1 a2) := by
  unfold f_Q_setLogic_m
  (try dsimp only)
  have s_M1 : SC d ρ (mst M0 17 7 a1) := SC.sa s_M0 (by decide)
  generalize e_M1 : mst M0 17 7 a1 = M1 at s_M1 ⊢
  have t_ := so_Q_zero (d := d) (ρ := ρ) M1 a1 s_M1 
  generalize e_x2 : f_Q_zero_v M1 a1 = x2 at t_ ⊢
  have s_M3 : SC d ρ (mst M1 17 6 (x2 ||| a2)) := SC.sa s_M1 (by decide)
  generalize e_M3 : mst M1 17 6 (x2 ||| a2) = M3 at s_M3 ⊢
  exact hQ _ s_M3
theorem so_Q_setLogic {d : Int32} {ρ : Nat → Int32} (M0 : Mem) (a1 : Int32) (a2 : Int32) (s_M0 : SC d ρ M0) : SC d ρ (f_Q_setLogic_m M0 a1 a2) := sq_Q_setLogic (d := d) (ρ := ρ) (Q := fun M' => SC d ρ M') M0 a1 a2 s_M0  (fun _ h0 => h0)
set_option maxRecDepth 100000 in
set_option maxHeartbeats 4000000 in
theorem so_Q_combine_j2 {d : Int32} {ρ : Nat → Int32} {Q : Mem → Prop} (M46 : Mem) (s_M46 : SC d ρ M46) (hQ : ∀ (M' : Mem), SC d ρ M' → Q M') : Q (f_Q_combine_j2_m M46) := by
  unfold f_Q_combine_j2_m
  (try dsimp only)
  exact hQ _ s_M46
set_option maxRecDepth 100000 in
set_option maxHeartbeats 4000000 in
theorem so_Q_combine_j1 {d : Int32} {ρ : Nat → Int32} {Q : Mem → Prop} (M0 : Mem) (a1 : Int32) (a2 : Int32) (x1 : Int32) (x31 : Int32) (s_M0 : SC d ρ M0) (hQ : ∀ (M' : Mem), SC d ρ M' → Q M') : Q (f_Q_combine_j1_m M0 a1 a2 x1 x31) := by
  unfold f_Q_combine_j1_m
  (try dsimp only)
  by_cases hc1 : (a1 = (0 : Int32))
  · skip
    (try simp only [if_pos hc1])
    have t_ := so_Q_add (d := d) (ρ := ρ) M0 a2 (0 : Int32) s_M0 
    generalize e_M47 : f_Q_add_m M0 a2 (0 : Int32) = M47 at t_ ⊢
    have s_M47 := t_
    exact so_Q_combine_j2 (d := d) (ρ := ρ) M47 s_M47 hQ
  · skip
    (try simp only [if_neg hc1])
    by_cases hc2 : (a1 = (1 : Int32))
    · skip
      (try simp only [if_pos hc2])
      have t_ := so_Q_add (d := d) (ρ := ρ) M0 a2 x31 s_M0 
      generalize e_M48 : f_Q_add_m M0 a2 x31 = M48 at t_ ⊢
      have s_M48 := t_
      exact so_Q_combine_j2 (d := d) (ρ := ρ) M48 s_M48 hQ
    · skip
      (try simp only [if_neg hc2])
      by_cases hc3 : (a1 = (2 : Int32))
      · skip
        (try simp only [if_pos hc3])
        have t_ := so_Q_difference (d := d) (ρ := ρ) M0 a2 (0 : Int32) s_M0 
        generalize e_x49 : f_Q_difference_v M0 a2 (0 : Int32) = x49 at t_ ⊢
        generalize e_M50 : f_Q_difference_m M0 a2 (0 : Int32) = M50 at t_ ⊢
        have s_M50 := t_
        have s_M51 : SC d ρ (mst M50 17 7 x49) := SC.sa s_M50 (by decide)
        generalize e_M51 : mst M50 17 7 x49 = M51 at s_M51 ⊢
        exact so_Q_combine_j2 (d := d) (ρ := ρ) M51 s_M51 hQ
      · skip
        (try simp only [if_neg hc3])
        by_cases hc4 : (a1 = (3 : Int32))
        · skip
          (try simp only [if_pos hc4])
          have t_ := so_Q_difference (d := d) (ρ := ρ) M0 a2 x31 s_M0 
          generalize e_x52 : f_Q_difference_v M0 a2 x31 = x52 at t_ ⊢
          generalize e_M53 : f_Q_difference_m M0 a2 x31 = M53 at t_ ⊢
          have s_M53 := t_
          have s_M54 : SC d ρ (mst M53 17 7 x52) := SC.sa s_M53 (by decide)
          generalize e_M54 : mst M53 17 7 x52 = M54 at s_M54 ⊢
          exact so_Q_combine_j2 (d := d) (ρ := ρ) M54 s_M54 hQ
        · skip
          (try simp only [if_neg hc4])
          by_cases hc5 : (a1 = (4 : Int32))
          · skip
            (try simp only [if_pos hc5])
            have t_ := so_Q_setLogic (d := d) (ρ := ρ) M0 (x1 &&& a2) (32 : Int32) s_M0 
            generalize e_M55 : f_Q_setLogic_m M0 (x1 &&& a2) (32 : Int32) = M55 at t_ ⊢
            have s_M55 := t_
            exact so_Q_combine_j2 (d := d) (ρ := ρ) M55 s_M55 hQ
          · skip
            (try simp only [if_neg hc5])
            by_cases hc6 : (a1 = (5 : Int32))
            · skip
              (try simp only [if_pos hc6])
              have t_ := so_Q_setLogic (d := d) (ρ := ρ) M0 (x1 ^^^ a2) (0 : Int32) s_M0 
              generalize e_M56 : f_Q_setLogic_m M0 (x1 ^^^ a2) (0 : Int32) = M56 at t_ ⊢
              have s_M56 := t_
              exact so_Q_combine_j2 (d := d) (ρ := ρ) M56 s_M56 hQ
            · skip
              (try simp only [if_neg hc6])
              by_cases hc7 : (a1 = (6 : Int32))
              · skip
                (try simp only [if_pos hc7])
                have t_ := so_Q_setLogic (d := d) (ρ := ρ) M0 (x1 ||| a2) (0 : Int32) s_M0 
                generalize e_M57 : f_Q_setLogic_m M0 (x1 ||| a2) (0 : Int32) = M57 at t_ ⊢
                have s_M57 := t_
                exact so_Q_combine_j2 (d := d) (ρ := ρ) M57 s_M57 hQ
              · skip
                (try simp only [if_neg hc7])
                have t_ := so_Q_difference (d := d) (ρ := ρ) M0 a2 (0 : Int32) s_M0 
                generalize e_x58 : f_Q_difference_v M0 a2 (0 : Int32) = x58 at t_ ⊢
                generalize e_M59 : f_Q_difference_m M0 a2 (0 : Int32) = M59 at t_ ⊢
                have s_M59 := t_
                exact so_Q_combine_j2 (d := d) (ρ := ρ) M59 s_M59 hQ
set_option maxRecDepth 100000 in
set_option maxHeartbeats 4000000 in
theorem sq_Q_combine {d : Int32} {ρ : Nat → Int32} {Q : Mem → Prop} (M0 : Mem) (a1 : Int32) (a2 : Int32) (s_M0 : SC d ρ M0) (hQ : ∀ (M' : Mem), SC d ρ M' → Q M') : Q (f_Q_combine_m M0 a1 a2) := by
  unfold f_Q_combine_m
  (try dsimp only)
  generalize e_x1 : (M0 17 7) = x1
  by_cases hc1 : ((M0 17 6) &&& (16 : Int32)) = 0
  · skip
    (try simp only [if_pos hc1])
    exact so_Q_combine_j1 (d := d) (ρ := ρ) M0 a1 a2 x1 (0 : Int32) s_M0 hQ
  · skip
    (try simp only [if_neg hc1])
    exact so_Q_combine_j1 (d := d) (ρ := ρ) M0 a1 a2 x1 (1 : Int32) s_M0 hQ
theorem so_Q_combine {d : Int32} {ρ : Nat → Int32} (M0 : Mem) (a1 : Int32) (a2 : Int32) (s_M0 : SC d ρ M0) : SC d ρ (f_Q_combine_m M0 a1 a2) := sq_Q_combine (d := d) (ρ := ρ) (Q := fun M' => SC d ρ M') M0 a1 a2 s_M0  (fun _ h0 => h0)
set_option maxRecDepth 100000 in
set_option maxHeartbeats 4000000 in
theorem so_Q_doPrefixed_j1 {d : Int32} {ρ : Nat → Int32} {Q : Mem → Prop} (M15 : Mem) (s_M15 : SC d ρ M15) (hQ : ∀ (M' : Mem), SC d ρ M' → Q M') : Q (f_Q_doPrefixed_j1_m M15) := by
  unfold f_Q_doPrefixed_j1_m
  (try dsimp only)
  exact hQ _ s_M15
set_option maxRecDepth 100000 in
set_option maxHeartbeats 4000000 in
theorem sq_Q_doPrefixed {d : Int32} {ρ : Nat → Int32} {Q : Mem → Prop} (M0 : Mem) (s_M0 : SC d ρ M0) (hQ : ∀ (M' : Mem), SC d ρ M' → Q M') : ok_Q_doPrefixed M0 ∧ Q (f_Q_doPrefixed_m M0) := by
  unfold ok_Q_doPrefixed f_Q_doPrefixed_m
  (try dsimp only)
  have t_ := so_Q_fetch (d := d) (ρ := ρ) M0 s_M0 
  refine ps_and t_.1 ?_
  replace t_ := t_.2
  refine ps_let ?_
  refine ps_let ?_
  generalize e_x1 : f_Q_fetch_v M0 = x1 at t_ ⊢
  generalize e_M2 : f_Q_fetch_m M0 = M2 at t_ ⊢
  have s_M2 := t_
  refine ps_let ?_
  generalize e_x3 : ((x1 >>> ((3 : Int32) &&& (31 : Int32))) &&& (7 : Int32)) = x3
  refine ps_let ?_
  generalize e_x4 : (x1 &&& (7 : Int32)) = x4
  have t_ := so_Q_octetAt (d := d) (ρ := ρ) M2 x4 s_M2 
  refine ps_and t_.1 ?_
  replace t_ := t_.2
  refine ps_let ?_
  refine ps_let ?_
  generalize e_x5 : f_Q_octetAt_v M2 x4 = x5 at t_ ⊢
  generalize e_M6 : f_Q_octetAt_m M2 x4 = M6 at t_ ⊢
  have s_M6 := t_
  by_cases hc1 : ((x1 >>> ((6 : Int32) &&& (31 : Int32))) = (0 : Int32))
  · skip
    refine ps_brp hc1 ?_
    (try simp only [if_pos hc1])
    have t_ := so_Q_shifted (d := d) (ρ := ρ) M6 x3 x5 s_M6 
    refine ps_let ?_
    refine ps_let ?_
    generalize e_x16 : f_Q_shifted_v M6 x3 x5 = x16 at t_ ⊢
    generalize e_M17 : f_Q_shifted_m M6 x3 x5 = M17 at t_ ⊢
    have s_M17 := t_
    have t_ := so_Q_setOctet (d := d) (ρ := ρ) M17 x4 x16 s_M17 
    refine And.intro t_.1 ?_
    replace t_ := t_.2
    generalize e_M18 : f_Q_setOctet_m M17 x4 x16 = M18 at t_ ⊢
    have s_M18 := t_
    exact so_Q_doPrefixed_j1 (d := d) (ρ := ρ) M18 s_M18 hQ
  · skip
    refine ps_brn hc1 ?_
    (try simp only [if_neg hc1])
    by_cases hc2 : ((x1 >>> ((6 : Int32) &&& (31 : Int32))) = (1 : Int32))
    · skip
      refine ps_brp hc2 ?_
      refine And.intro trivial ?_
      (try simp only [if_pos hc2])
      have t_ := so_Q_zero (d := d) (ρ := ρ) M6 (x5 &&& ((1 : Int32) <<< (x3 &&& (31 : Int32)))) s_M6 
      generalize e_x19 : f_Q_zero_v M6 (x5 &&& ((1 : Int32) <<< (x3 &&& (31 : Int32)))) = x19 at t_ ⊢
      have s_M20 : SC d ρ (mst M6 17 6 ((((M6 17 6) &&& (16 : Int32)) ||| (32 : Int32)) ||| x19)) := SC.sa s_M6 (by decide)
      generalize e_M20 : mst M6 17 6 ((((M6 17 6) &&& (16 : Int32)) ||| (32 : Int32)) ||| x19) = M20 at s_M20 ⊢
      exact so_Q_doPrefixed_j1 (d := d) (ρ := ρ) M20 s_M20 hQ
    · skip
      refine ps_brn hc2 ?_
      (try simp only [if_neg hc2])
      by_cases hc3 : ((x1 >>> ((6 : Int32) &&& (31 : Int32))) = (2 : Int32))
      · skip
        refine ps_brp hc3 ?_
        (try simp only [if_pos hc3])
        have t_ := so_Q_setOctet (d := d) (ρ := ρ) M6 x4 (x5 &&& (((1 : Int32) <<< (x3 &&& (31 : Int32))) ^^^ (-1 : Int32))) s_M6 
        refine And.intro t_.1 ?_
        replace t_ := t_.2
        generalize e_M21 : f_Q_setOctet_m M6 x4 (x5 &&& (((1 : Int32) <<< (x3 &&& (31 : Int32))) ^^^ (-1 : Int32))) = M21 at t_ ⊢
        have s_M21 := t_
        exact so_Q_doPrefixed_j1 (d := d) (ρ := ρ) M21 s_M21 hQ
      · skip
        refine ps_brn hc3 ?_
        (try simp only [if_neg hc3])
        have t_ := so_Q_setOctet (d := d) (ρ := ρ) M6 x4 (x5 ||| ((1 : Int32) <<< (x3 &&& (31 : Int32)))) s_M6 
        refine And.intro t_.1 ?_
        replace t_ := t_.2
        generalize e_M22 : f_Q_setOctet_m M6 x4 (x5 ||| ((1 : Int32) <<< (x3 &&& (31 : Int32)))) = M22 at t_ ⊢
        have s_M22 := t_
        exact so_Q_doPrefixed_j1 (d := d) (ρ := ρ) M22 s_M22 hQ
theorem so_Q_doPrefixed {d : Int32} {ρ : Nat → Int32} (M0 : Mem) (s_M0 : SC d ρ M0) : ok_Q_doPrefixed M0 ∧ SC d ρ (f_Q_doPrefixed_m M0) := sq_Q_doPrefixed (d := d) (ρ := ρ) (Q := fun M' => SC d ρ M') M0 s_M0  (fun _ h0 => h0)
set_option maxRecDepth 100000 in
set_option maxHeartbeats 4000000 in
theorem sq_Q_pop {d : Int32} {ρ : Nat → Int32} {Q : Int32 → Mem → Prop} (M0 : Mem) (s_M0 : SC d ρ M0) (hQ : ∀ (x : Int32) (M' : Mem), SC d ρ M' → Q x M') : ok_Q_pop M0 ∧ Q (f_Q_pop_v M0) (f_Q_pop_m M0) := by
  unfold ok_Q_pop f_Q_pop_v f_Q_pop_m
  (try dsimp only)
  have t_ := so_Y_load (d := d) (ρ := ρ) M0 (((M0 5 7) + (1 : Int32)) &&& (65535 : Int32)) s_M0 
  refine ps_and t_.1 ?_
  replace t_ := t_.2
  refine ps_let ?_
  generalize e_x1 : f_Y_load_v M0 (((M0 5 7) + (1 : Int32)) &&& (65535 : Int32)) = x1 at t_ ⊢
  have t_ := so_Y_load (d := d) (ρ := ρ) M0 (M0 5 7) s_M0 
  refine And.intro t_.1 ?_
  replace t_ := t_.2
  generalize e_x2 : f_Y_load_v M0 (M0 5 7) = x2 at t_ ⊢
  generalize e_x3 : ((x1 <<< ((8 : Int32) &&& (31 : Int32))) ||| x2) = x3
  have s_M4 : SC d ρ (mst M0 5 7 (((M0 5 7) + (2 : Int32)) &&& (65535 : Int32))) := SC.sa s_M0 (by decide)
  generalize e_M4 : mst M0 5 7 (((M0 5 7) + (2 : Int32)) &&& (65535 : Int32)) = M4 at s_M4 ⊢
  have s_M5 : SC d ρ (mst M4 5 10 ((M4 5 10) + (2 : Int32))) := SC.sa s_M4 (by decide)
  generalize e_M5 : mst M4 5 10 ((M4 5 10) + (2 : Int32)) = M5 at s_M5 ⊢
  exact hQ _ _ s_M5
theorem so_Q_pop {d : Int32} {ρ : Nat → Int32} (M0 : Mem) (s_M0 : SC d ρ M0) : ok_Q_pop M0 ∧ SC d ρ (f_Q_pop_m M0) := sq_Q_pop (d := d) (ρ := ρ) (Q := fun _ M' => SC d ρ M') M0 s_M0  (fun _ _ h0 => h0)
