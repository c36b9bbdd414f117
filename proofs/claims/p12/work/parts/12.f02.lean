def f_Q_stackPair_j1_v (x3 : Int32) : Int32 := x3
set_option maxRecDepth 100000 in
set_option maxHeartbeats 4000000 in
theorem sp_Q_stackPair_j1 (x3 : Int32) (Q : Int32 → Prop) (hQ : Q (f_Q_stackPair_j1_v x3)) : wp_Q_stackPair_j1 x3 Q := by
  unfold wp_Q_stackPair_j1
  unfold f_Q_stackPair_j1_v at hQ
  exact hQ
def f_Q_stackPair_v (M0 : Mem) (a1 : Int32) : Int32 := (if a1 = (3 : Int32) then (f_Q_stackPair_j1_v (((M0 17 7) <<< ((8 : Int32) &&& (31 : Int32))) ||| (M0 17 6))) else let x4 : Int32 := f_Q_pair_v M0 a1; (f_Q_stackPair_j1_v x4))
def ok_Q_stackPair (M0 : Mem) (a1 : Int32) : Prop := (((¬ a1 = (3 : Int32)) → ok_Q_pair M0 a1) ∧ ((a1 = (3 : Int32)) → True))
set_option maxRecDepth 100000 in
set_option maxHeartbeats 4000000 in
theorem sp_Q_stackPair (M0 : Mem) (a1 : Int32) (Q : Int32 → Prop) (hok : ok_Q_stackPair M0 a1) (hQ : Q (f_Q_stackPair_v M0 a1)) : wp_Q_stackPair M0 a1 Q := by
  unfold wp_Q_stackPair
  unfold ok_Q_stackPair at hok
  unfold f_Q_stackPair_v at hQ
  refine ⟨fun hc => ?_, fun hc => ?_⟩
  · simp only [if_neg hc] at hQ
    have hok := hok.1 hc
    refine sp_Q_pair _ _ _ hok ?_
    exact sp_Q_stackPair_j1 _ _ hQ
  · simp only [if_pos hc] at hQ
    exact sp_Q_stackPair_j1 _ _ hQ
def f_Q_doHighest_j1_m (M59 : Mem) : Mem := M59
set_option maxRecDepth 100000 in
set_option maxHeartbeats 4000000 in
theorem sp_Q_doHighest_j1 (M59 : Mem) (Q : Mem → Prop) (hQ : Q (f_Q_doHighest_j1_m M59)) : wp_Q_doHighest_j1 M59 Q := by
  unfold wp_Q_doHighest_j1
  unfold f_Q_doHighest_j1_m at hQ
  exact hQ
def f_Q_doHighest_j4_m (M104 : Mem) : Mem := (f_Q_doHighest_j1_m M104)
set_option maxRecDepth 100000 in
set_option maxHeartbeats 4000000 in
theorem sp_Q_doHighest_j4 (M104 : Mem) (Q : Mem → Prop) (hQ : Q (f_Q_doHighest_j4_m M104)) : wp_Q_doHighest_j4 M104 Q := by
  unfold wp_Q_doHighest_j4
  unfold f_Q_doHighest_j4_m at hQ
  exact sp_Q_doHighest_j1 _ _ hQ
def f_Q_doHighest_j5_m (x98 : Int32) (M99 : Mem) : Mem := let M105 : Mem := f_Q_push_m M99 (M99 5 8); let M106 : Mem := mst M105 5 8 x98; (f_Q_doHighest_j4_m M106)
def ok_Q_doHighest_j5 (x98 : Int32) (M99 : Mem) : Prop := ok_Q_push M99 (M99 5 8)
set_option maxRecDepth 100000 in
set_option maxHeartbeats 4000000 in
theorem sp_Q_doHighest_j5 (x98 : Int32) (M99 : Mem) (Q : Mem → Prop) (hok : ok_Q_doHighest_j5 x98 M99) (hQ : Q (f_Q_doHighest_j5_m x98 M99)) : wp_Q_doHighest_j5 x98 M99 Q := by
  unfold wp_Q_doHighest_j5
  unfold ok_Q_doHighest_j5 at hok
  unfold f_Q_doHighest_j5_m at hQ
  refine sp_Q_push _ _ _ hok ?_
  intro M106 h_; subst h_
  exact sp_Q_doHighest_j4 _ _ hQ
def f_Q_doHighest_j3_m (M0 : Mem) (a1 : Int32) (a2 : Int32) : Mem := let x98 : Int32 := f_Q_fetchWord_v M0; let M99 : Mem := f_Q_fetchWord_m M0; (if a2 = (5 : Int32) then (f_Q_doHighest_j5_m x98 M99) else let x107 : Int32 := f_Q_holds_v M99 a1; (if x107 = 0 then (f_Q_doHighest_j4_m M99) else (f_Q_doHighest_j5_m x98 M99)))
def ok_Q_doHighest_j3 (M0 : Mem) (a1 : Int32) (a2 : Int32) : Prop := ok_Q_fetchWord M0 ∧ (∀ x98 : Int32, x98 = f_Q_fetchWord_v M0 → ∀ M99 : Mem, M99 = f_Q_fetchWord_m M0 → (((a2 = (5 : Int32)) → ok_Q_doHighest_j5 x98 M99) ∧ ((¬ a2 = (5 : Int32)) → ok_Q_holds M99 a1 ∧ (∀ x107 : Int32, x107 = f_Q_holds_v M99 a1 → (((x107 = 0) → True) ∧ ((¬ x107 = 0) → ok_Q_doHighest_j5 x98 M99))))))
set_option maxRecDepth 100000 in
set_option maxHeartbeats 4000000 in
theorem sp_Q_doHighest_j3 (M0 : Mem) (a1 : Int32) (a2 : Int32) (Q : Mem → Prop) (hok : ok_Q_doHighest_j3 M0 a1 a2) (hQ : Q (f_Q_doHighest_j3_m M0 a1 a2)) : wp_Q_doHighest_j3 M0 a1 a2 Q := by
  unfold wp_Q_doHighest_j3
  unfold ok_Q_doHighest_j3 at hok
  unfold f_Q_doHighest_j3_m at hQ
  refine sp_Q_fetchWord _ _ hok.1 ?_
  have hok := hok.2 _ rfl _ rfl
  refine ⟨fun hc => ?_, fun hc => ?_⟩
  · simp only [if_pos hc] at hQ
    have hok := hok.1 hc
    exact sp_Q_doHighest_j5 _ _ _ hok hQ
  · simp only [if_neg hc] at hQ
    have hok := hok.2 hc
    refine sp_Q_holds _ _ _ hok.1 ?_
    have hok := hok.2 _ rfl
    refine ⟨fun hc => ?_, fun hc => ?_⟩
    · simp only [if_pos hc] at hQ
      exact sp_Q_doHighest_j4 _ _ hQ
    · simp only [if_neg hc] at hQ
      have hok := hok.2 hc
      exact sp_Q_doHighest_j5 _ _ _ hok hQ
def f_Q_doHighest_j7_m (M0 : Mem) : Mem := let M109 : Mem := mst M0 5 5 (1 : Int32); (f_Q_doHighest_j1_m M109)
set_option maxRecDepth 100000 in
set_option maxHeartbeats 4000000 in
theorem sp_Q_doHighest_j7 (M0 : Mem) (Q : Mem → Prop) (hQ : Q (f_Q_doHighest_j7_m M0)) : wp_Q_doHighest_j7 M0 Q := by
  unfold wp_Q_doHighest_j7
  unfold f_Q_doHighest_j7_m at hQ
  intro M109 h_; subst h_
  exact sp_Q_doHighest_j1 _ _ hQ
def f_Q_doHighest_j6_m (M0 : Mem) (a1 : Int32) (a2 : Int32) : Mem := (if a2 = (5 : Int32) then (if a1 = (1 : Int32) then (f_Q_doHighest_j3_m M0 a1 a2) else (f_Q_doHighest_j7_m M0)) else (f_Q_doHighest_j7_m M0))
def ok_Q_doHighest_j6 (M0 : Mem) (a1 : Int32) (a2 : Int32) : Prop := (((¬ a2 = (5 : Int32)) → True) ∧ ((a2 = (5 : Int32)) → (((¬ a1 = (1 : Int32)) → True) ∧ ((a1 = (1 : Int32)) → ok_Q_doHighest_j3 M0 a1 a2))))
set_option maxRecDepth 100000 in
set_option maxHeartbeats 4000000 in
theorem sp_Q_doHighest_j6 (M0 : Mem) (a1 : Int32) (a2 : Int32) (Q : Mem → Prop) (hok : ok_Q_doHighest_j6 M0 a1 a2) (hQ : Q (f_Q_doHighest_j6_m M0 a1 a2)) : wp_Q_doHighest_j6 M0 a1 a2 Q := by
  unfold wp_Q_doHighest_j6
  unfold ok_Q_doHighest_j6 at hok
  unfold f_Q_doHighest_j6_m at hQ
  refine ⟨fun hc => ?_, fun hc => ?_⟩
  · simp only [if_neg hc] at hQ
    exact sp_Q_doHighest_j7 _ _ hQ
  · simp only [if_pos hc] at hQ
    have hok := hok.2 hc
    refine ⟨fun hc => ?_, fun hc => ?_⟩
    · simp only [if_neg hc] at hQ
      exact sp_Q_doHighest_j7 _ _ hQ
    · simp only [if_pos hc] at hQ
      have hok := hok.2 hc
      exact sp_Q_doHighest_j3 _ _ _ _ hok hQ
def f_Q_doHighest_j2_m (M0 : Mem) (a1 : Int32) (a2 : Int32) : Mem := (if a2 = (4 : Int32) then (if a1 < (4 : Int32) then (f_Q_doHighest_j3_m M0 a1 a2) else (f_Q_doHighest_j6_m M0 a1 a2)) else (f_Q_doHighest_j6_m M0 a1 a2))
def ok_Q_doHighest_j2 (M0 : Mem) (a1 : Int32) (a2 : Int32) : Prop := (((¬ a2 = (4 : Int32)) → ok_Q_doHighest_j6 M0 a1 a2) ∧ ((a2 = (4 : Int32)) → (((a1 < (4 : Int32)) → ok_Q_doHighest_j3 M0 a1 a2) ∧ ((¬ a1 < (4 : Int32)) → ok_Q_doHighest_j6 M0 a1 a2))))
set_option maxRecDepth 100000 in
set_option maxHeartbeats 4000000 in
theorem sp_Q_doHighest_j2 (M0 : Mem) (a1 : Int32) (a2 : Int32) (Q : Mem → Prop) (hok : ok_Q_doHighest_j2 M0 a1 a2) (hQ : Q (f_Q_doHighest_j2_m M0 a1 a2)) : wp_Q_doHighest_j2 M0 a1 a2 Q := by
  unfold wp_Q_doHighest_j2
  unfold ok_Q_doHighest_j2 at hok
  unfold f_Q_doHighest_j2_m at hQ
  refine ⟨fun hc => ?_, fun hc => ?_⟩
  · simp only [if_neg hc] at hQ
    have hok := hok.1 hc
    exact sp_Q_doHighest_j6 _ _ _ _ hok hQ
  · simp only [if_pos hc] at hQ
    have hok := hok.2 hc
    refine ⟨fun hc => ?_, fun hc => ?_⟩
    · simp only [if_pos hc] at hQ
      have hok := hok.1 hc
      exact sp_Q_doHighest_j3 _ _ _ _ hok hQ
    · simp only [if_neg hc] at hQ
      have hok := hok.2 hc
      exact sp_Q_doHighest_j6 _ _ _ _ hok hQ
def f_Q_doHighest_m (M0 : Mem) (a1 : Int32) (a2 : Int32) : Mem := (if a2 = (6 : Int32) then let x114 : Int32 := f_Q_fetch_v M0; let M115 : Mem := f_Q_fetch_m M0; let M116 : Mem := f_Q_combine_m M115 a1 x114; (f_Q_doHighest_j1_m M116) else (if a2 = (7 : Int32) then let M112 : Mem := f_Q_push_m M0 (M0 5 8); let M113 : Mem := mst M112 5 8 ((8 : Int32) * a1); (f_Q_doHighest_j1_m M113) else (if a2 = (5 : Int32) then (if (a1 &&& (1 : Int32)) = 0 then let x110 : Int32 := f_Q_stackPair_v M0 (a1 >>> ((1 : Int32) &&& (31 : Int32))); let M111 : Mem := f_Q_push_m M0 x110; (f_Q_doHighest_j1_m M111) else (f_Q_doHighest_j2_m M0 a1 a2)) else (f_Q_doHighest_j2_m M0 a1 a2))))
def ok_Q_doHighest (M0 : Mem) (a1 : Int32) (a2 : Int32) : Prop := (((¬ a2 = (6 : Int32)) → (((¬ a2 = (7 : Int32)) → (((¬ a2 = (5 : Int32)) → ok_Q_doHighest_j2 M0 a1 a2) ∧ ((a2 = (5 : Int32)) → (((¬ (a1 &&& (1 : Int32)) = 0) → ok_Q_doHighest_j2 M0 a1 a2) ∧ (((a1 &&& (1 : Int32)) = 0) → ok_Q_stackPair M0 (a1 >>> ((1 : Int32) &&& (31 : Int32))) ∧ (∀ x110 : Int32, x110 = f_Q_stackPair_v M0 (a1 >>> ((1 : Int32) &&& (31 : Int32))) → ok_Q_push M0 x110)))))) ∧ ((a2 = (7 : Int32)) → ok_Q_push M0 (M0 5 8)))) ∧ ((a2 = (6 : Int32)) → ok_Q_fetch M0))
set_option maxRecDepth 100000 in
set_option maxHeartbeats 4000000 in
theorem sp_Q_doHighest (M0 : Mem) (a1 : Int32) (a2 : Int32) (Q : Mem → Prop) (hok : ok_Q_doHighest M0 a1 a2) (hQ : Q (f_Q_doHighest_m M0 a1 a2)) : wp_Q_doHighest M0 a1 a2 Q := by
  unfold wp_Q_doHighest
  unfold ok_Q_doHighest at hok
  unfold f_Q_doHighest_m at hQ
  refine ⟨fun hc => ?_, fun hc => ?_⟩
  · simp only [if_neg hc] at hQ
    have hok := hok.1 hc
    refine ⟨fun hc => ?_, fun hc => ?_⟩
    · simp only [if_neg hc] at hQ
      have hok := hok.1 hc
      refine ⟨fun hc => ?_, fun hc => ?_⟩
      · simp only [if_neg hc] at hQ
        have hok := hok.1 hc
        exact sp_Q_doHighest_j2 _ _ _ _ hok hQ
      · simp only [if_pos hc] at hQ
        have hok := hok.2 hc
        refine ⟨fun hc => ?_, fun hc => ?_⟩
        · simp only [if_neg hc] at hQ
          have hok := hok.1 hc
          exact sp_Q_doHighest_j2 _ _ _ _ hok hQ
        · simp only [if_pos hc] at hQ
          have hok := hok.2 hc
          refine sp_Q_stackPair _ _ _ hok.1 ?_
          have hok := hok.2 _ rfl
          refine sp_Q_push _ _ _ hok ?_
          exact sp_Q_doHighest_j1 _ _ hQ
    · simp only [if_pos hc] at hQ
      have hok := hok.2 hc
      refine sp_Q_push _ _ _ hok ?_
      intro M113 h_; subst h_
      exact sp_Q_doHighest_j1 _ _ hQ
  · simp only [if_pos hc] at hQ
    have hok := hok.2 hc
    refine sp_Q_fetch _ _ hok ?_
    refine sp_Q_combine _ _ _ _ ?_
    exact sp_Q_doHighest_j1 _ _ hQ
def f_Q_finish_m (M0 : Mem) : Mem := (if (M0 5 5) = 0 then let M1 : Mem := mst M0 5 1 ((M0 5 1) + (1 : Int32)); let M2 : Mem := mst M1 5 0 ((M1 5 0) + (M1 5 10)); let M3 : Mem := f_P_pass_m M2 (M2 5 10); M3 else M0)
def ok_Q_finish (M0 : Mem) : Prop := ((((M0 5 5) = 0) → ∀ M1 : Mem, M1 = mst M0 5 1 ((M0 5 1) + (1 : Int32)) → ∀ M2 : Mem, M2 = mst M1 5 0 ((M1 5 0) + (M1 5 10)) → ok_P_pass M2 (M2 5 10)) ∧ ((¬ (M0 5 5) = 0) → True))
set_option maxRecDepth 100000 in
set_option maxHeartbeats 4000000 in
theorem sp_Q_finish (M0 : Mem) (Q : Mem → Prop) (hok : ok_Q_finish M0) (hQ : Q (f_Q_finish_m M0)) : wp_Q_finish M0 Q := by
  unfold wp_Q_finish
  unfold ok_Q_finish at hok
  unfold f_Q_finish_m at hQ
  refine ⟨fun hc => ?_, fun hc => ?_⟩
  · simp only [if_pos hc] at hQ
    have hok := hok.1 hc
    intro M1 h_; subst h_
    have hok := hok _ rfl
    intro M2 h_; subst h_
    have hok := hok _ rfl
    refine sp_P_pass _ _ _ hok ?_
    exact hQ
  · simp only [if_neg hc] at hQ
    exact hQ
def f_Q_step_j2_m (M108 : Mem) : Mem := let M109 : Mem := f_Q_finish_m M108; M109
def ok_Q_step_j2 (M108 : Mem) : Prop := ok_Q_finish M108
set_option maxRecDepth 100000 in
set_option maxHeartbeats 4000000 in
theorem sp_Q_step_j2 (M108 : Mem) (Q : Mem → Prop) (hok : ok_Q_step_j2 M108) (hQ : Q (f_Q_step_j2_m M108)) : wp_Q_step_j2 M108 Q := by
  unfold wp_Q_step_j2
  unfold ok_Q_step_j2 at hok
  unfold f_Q_step_j2_m at hQ
  refine sp_Q_finish _ _ hok ?_
  exact hQ
def f_Q_step_j4_m (M73 : Mem) (x125 : Int32) : Mem := let M126 : Mem := mst M73 5 3 x125; let M127 : Mem := mst M126 5 9 (0 : Int32); let x128 : Int32 := f_Q_fetch_v M127; let M129 : Mem := f_Q_fetch_m M127; let x130 : Int32 := ((x128 >>> ((3 : Int32) &&& (31 : Int32))) &&& (7 : Int32)); let x131 : Int32 := (x128 &&& (7 : Int32)); (if ((x128 >>> ((6 : Int32) &&& (31 : Int32))) = (0 : Int32)) then let M132 : Mem := f_Q_doLow_m M129 x130 x131; (f_Q_step_j2_m M132) else (if ((x128 >>> ((6 : Int32) &&& (31 : Int32))) = (1 : Int32)) then let M133 : Mem := f_Q_doCopy_m M129 x130 x131; (f_Q_step_j2_m M133) else (if ((x128 >>> ((6 : Int32) &&& (31 : Int32))) = (2 : Int32)) then let x134 : Int32 := f_Q_octetAt_v M129 x131; let M135 : Mem := f_Q_octetAt_m M129 x131; let M136 : Mem := f_Q_combine_m M135 x130 x134; (f_Q_step_j2_m M136) else (if x128 = (203 : Int32) then let M139 : Mem := f_Q_doPrefixed_m M129; (f_Q_step_j2_m M139) else (if (4 : Int32) ≤ x131 then let M137 : Mem := f_Q_doHighest_m M129 x130 x131; (f_Q_step_j2_m M137) else let M138 : Mem := f_Q_doHigh_m M129 x130 x131; (f_Q_step_j2_m M138))))))
def ok_Q_step_j4 (M73 : Mem) (x125 : Int32) : Prop := isB x125 ∧ (∀ M126 : Mem, M126 = mst M73 5 3 x125 → ∀ M127 : Mem, M127 = mst M126 5 9 (0 : Int32) → ok_Q_fetch M127 ∧ (∀ x128 : Int32, x128 = f_Q_fetch_v M127 → ∀ M129 : Mem, M129 = f_Q_fetch_m M127 → ∀ x130 : Int32, x130 = ((x128 >>> ((3 : Int32) &&& (31 : Int32))) &&& (7 : Int32)) → ∀ x131 : Int32, x131 = (x128 &&& (7 : Int32)) → (((((x128 >>> ((6 : Int32) &&& (31 : Int32))) = (0 : Int32))) → ok_Q_doLow M129 x130 x131 ∧ (∀ M132 : Mem, M132 = f_Q_doLow_m M129 x130 x131 → ok_Q_step_j2 M132)) ∧ ((¬ ((x128 >>> ((6 : Int32) &&& (31 : Int32))) = (0 : Int32))) → (((((x128 >>> ((6 : Int32) &&& (31 : Int32))) = (1 : Int32))) → ok_Q_doCopy M129 x130 x131 ∧ (∀ M133 : Mem, M133 = f_Q_doCopy_m M129 x130 x131 → ok_Q_step_j2 M133)) ∧ ((¬ ((x128 >>> ((6 : Int32) &&& (31 : Int32))) = (1 : Int32))) → (((((x128 >>> ((6 : Int32) &&& (31 : Int32))) = (2 : Int32))) → ok_Q_octetAt M129 x131 ∧ (∀ x134 : Int32, x134 = f_Q_octetAt_v M129 x131 → ∀ M135 : Mem, M135 = f_Q_octetAt_m M129 x131 → ∀ M136 : Mem, M136 = f_Q_combine_m M135 x130 x134 → ok_Q_step_j2 M136)) ∧ ((¬ ((x128 >>> ((6 : Int32) &&& (31 : Int32))) = (2 : Int32))) → (((¬ x128 = (203 : Int32)) → ((((4 : Int32) ≤ x131) → ok_Q_doHighest M129 x130 x131 ∧ (∀ M137 : Mem, M137 = f_Q_doHighest_m M129 x130 x131 → ok_Q_step_j2 M137)) ∧ ((¬ (4 : Int32) ≤ x131) → ok_Q_doHigh M129 x130 x131 ∧ (∀ M138 : Mem, M138 = f_Q_doHigh_m M129 x130 x131 → ok_Q_step_j2 M138)))) ∧ ((x128 = (203 : Int32)) → ok_Q_doPrefixed M129 ∧ (∀ M139 : Mem, M139 = f_Q_doPrefixed_m M129 → ok_Q_step_j2 M139)))))))))))
set_option maxRecDepth 100000 in
set_option maxHeartbeats 4000000 in
theorem sp_Q_step_j4 (M73 : Mem) (x125 : Int32) (Q : Mem → Prop) (hok : ok_Q_step_j4 M73 x125) (hQ : Q (f_Q_step_j4_m M73 x125)) : wp_Q_step_j4 M73 x125 Q := by
  unfold wp_Q_step_j4
  unfold ok_Q_step_j4 at hok
  unfold f_Q_step_j4_m at hQ
  refine ⟨hok.1, ?_⟩
  have hok := hok.2
  intro M126 h_; subst h_
  have hok := hok _ rfl
  intro M127 h_; subst h_
  have hok := hok _ rfl
  refine sp_Q_fetch _ _ hok.1 ?_
  have hok := hok.2 _ rfl _ rfl
  intro x130 h_; subst h_
  have hok := hok _ rfl
  intro x131 h_; subst h_
  have hok := hok _ rfl
  refine ⟨fun hc => ?_, fun hc => ?_⟩
  · simp only [if_pos hc] at hQ
    have hok := hok.1 hc
    refine sp_Q_doLow _ _ _ _ hok.1 ?_
    have hok := hok.2 _ rfl
    exact sp_Q_step_j2 _ _ hok hQ
  · simp only [if_neg hc] at hQ
    have hok := hok.2 hc
    refine ⟨fun hc => ?_, fun hc => ?_⟩
    · simp only [if_pos hc] at hQ
      have hok := hok.1 hc
      refine sp_Q_doCopy _ _ _ _ hok.1 ?_
      have hok := hok.2 _ rfl
      exact sp_Q_step_j2 _ _ hok hQ
    · simp only [if_neg hc] at hQ
      have hok := hok.2 hc
      refine ⟨fun hc => ?_, fun hc => ?_⟩
      · simp only [if_pos hc] at hQ
        have hok := hok.1 hc
        refine sp_Q_octetAt _ _ _ hok.1 ?_
        have hok := hok.2 _ rfl _ rfl
        refine sp_Q_combine _ _ _ _ ?_
        have hok := hok _ rfl
        exact sp_Q_step_j2 _ _ hok hQ
      · simp only [if_neg hc] at hQ
        have hok := hok.2 hc
        refine ⟨fun hc => ?_, fun hc => ?_⟩
        · simp only [if_neg hc] at hQ
          have hok := hok.1 hc
          refine ⟨fun hc => ?_, fun hc => ?_⟩
          · simp only [if_pos hc] at hQ
            have hok := hok.1 hc
            refine sp_Q_doHighest _ _ _ _ hok.1 ?_
            have hok := hok.2 _ rfl
            exact sp_Q_step_j2 _ _ hok hQ
          · simp only [if_neg hc] at hQ
            have hok := hok.2 hc
            refine sp_Q_doHigh _ _ _ _ hok.1 ?_
            have hok := hok.2 _ rfl
            exact sp_Q_step_j2 _ _ hok hQ
        · simp only [if_pos hc] at hQ
          have hok := hok.2 hc
          refine sp_Q_doPrefixed _ _ hok.1 ?_
          have hok := hok.2 _ rfl
          exact sp_Q_step_j2 _ _ hok hQ
def f_Q_step_j5_m (M73 : Mem) : Mem := (f_Q_step_j4_m M73 (1 : Int32))
def ok_Q_step_j5 (M73 : Mem) : Prop := ok_Q_step_j4 M73 (1 : Int32)
set_option maxRecDepth 100000 in
set_option maxHeartbeats 4000000 in
theorem sp_Q_step_j5 (M73 : Mem) (Q : Mem → Prop) (hok : ok_Q_step_j5 M73) (hQ : Q (f_Q_step_j5_m M73)) : wp_Q_step_j5 M73 Q := by
  unfold wp_Q_step_j5
  unfold ok_Q_step_j5 at hok
  unfold f_Q_step_j5_m at hQ
  exact sp_Q_step_j4 _ _ _ hok hQ
def f_Q_step_j3_m (M73 : Mem) : Mem := (if (M73 5 4) = 0 then (if (M73 5 3) = 0 then (if (M73 5 9) = 0 then (f_Q_step_j4_m M73 (0 : Int32)) else (f_Q_step_j5_m M73)) else (f_Q_step_j5_m M73)) else let M140 : Mem := f_Q_passHalted_m M73; M140)
def ok_Q_step_j3 (M73 : Mem) : Prop := ((((M73 5 4) = 0) → (((¬ (M73 5 3) = 0) → ok_Q_step_j5 M73) ∧ (((M73 5 3) = 0) → ((((M73 5 9) = 0) → ok_Q_step_j4 M73 (0 : Int32)) ∧ ((¬ (M73 5 9) = 0) → ok_Q_step_j5 M73))))) ∧ ((¬ (M73 5 4) = 0) → ok_Q_passHalted M73))
set_option maxRecDepth 100000 in
set_option maxHeartbeats 4000000 in
theorem sp_Q_step_j3 (M73 : Mem) (Q : Mem → Prop) (hok : ok_Q_step_j3 M73) (hQ : Q (f_Q_step_j3_m M73)) : wp_Q_step_j3 M73 Q := by
  unfold wp_Q_step_j3
  unfold ok_Q_step_j3 at hok
  unfold f_Q_step_j3_m at hQ
  refine ⟨fun hc => ?_, fun hc => ?_⟩
  · simp only [if_pos hc] at hQ
    have hok := hok.1 hc
    refine ⟨fun hc => ?_, fun hc => ?_⟩
    · simp only [if_neg hc] at hQ
      have hok := hok.1 hc
      exact sp_Q_step_j5 _ _ hok hQ
    · simp only [if_pos hc] at hQ
      have hok := hok.2 hc
      refine ⟨fun hc => ?_, fun hc => ?_⟩
      · simp only [if_pos hc] at hQ
        have hok := hok.1 hc
        exact sp_Q_step_j4 _ _ _ hok hQ
      · simp only [if_neg hc] at hQ
        have hok := hok.2 hc
        exact sp_Q_step_j5 _ _ hok hQ
  · simp only [if_neg hc] at hQ
    have hok := hok.2 hc
    refine sp_Q_passHalted _ _ hok ?_
    exact hQ
def f_Q_step_j1_m (x1 : Int32) (M73 : Mem) : Mem := (if x1 = 0 then (f_Q_step_j3_m M73) else (if (M73 5 3) = 0 then (f_Q_step_j3_m M73) else let M141 : Mem := f_Q_takeInterrupt_m M73 x1; (f_Q_step_j2_m M141)))
def ok_Q_step_j1 (x1 : Int32) (M73 : Mem) : Prop := (((x1 = 0) → ok_Q_step_j3 M73) ∧ ((¬ x1 = 0) → ((((M73 5 3) = 0) → ok_Q_step_j3 M73) ∧ ((¬ (M73 5 3) = 0) → ok_Q_takeInterrupt M73 x1 ∧ (∀ M141 : Mem, M141 = f_Q_takeInterrupt_m M73 x1 → ok_Q_step_j2 M141)))))
set_option maxRecDepth 100000 in
set_option maxHeartbeats 4000000 in
theorem sp_Q_step_j1 (x1 : Int32) (M73 : Mem) (Q : Mem → Prop) (hok : ok_Q_step_j1 x1 M73) (hQ : Q (f_Q_step_j1_m x1 M73)) : wp_Q_step_j1 x1 M73 Q := by
  unfold wp_Q_step_j1
  unfold ok_Q_step_j1 at hok
  unfold f_Q_step_j1_m at hQ
  refine ⟨fun hc => ?_, fun hc => ?_⟩
  · simp only [if_pos hc] at hQ
    have hok := hok.1 hc
    exact sp_Q_step_j3 _ _ hok hQ
  · simp only [if_neg hc] at hQ
    have hok := hok.2 hc
    refine ⟨fun hc => ?_, fun hc => ?_⟩
    · simp only [if_pos hc] at hQ
      have hok := hok.1 hc
      exact sp_Q_step_j3 _ _ hok hQ
    · simp only [if_neg hc] at hQ
      have hok := hok.2 hc
      refine sp_Q_takeInterrupt _ _ _ hok.1 ?_
      have hok := hok.2 _ rfl
      exact sp_Q_step_j2 _ _ hok hQ
def f_Q_step_m (M0 : Mem) : Mem := let x1 : Int32 := f_P_waiting_v M0; let M2 : Mem := mst M0 5 10 (0 : Int32); (if x1 = 0 then (f_Q_step_j1_m x1 M2) else let M142 : Mem := mst M2 5 4 (0 : Int32); (f_Q_step_j1_m x1 M142))
def ok_Q_step (M0 : Mem) : Prop := ∀ x1 : Int32, x1 = f_P_waiting_v M0 → ∀ M2 : Mem, M2 = mst M0 5 10 (0 : Int32) → (((x1 = 0) → ok_Q_step_j1 x1 M2) ∧ ((¬ x1 = 0) → ∀ M142 : Mem, M142 = mst M2 5 4 (0 : Int32) → ok_Q_step_j1 x1 M142))
set_option maxRecDepth 100000 in
set_option maxHeartbeats 4000000 in
theorem sp_Q_step (M0 : Mem) (Q : Mem → Prop) (hok : ok_Q_step M0) (hQ : Q (f_Q_step_m M0)) : wp_Q_step M0 Q := by
  unfold wp_Q_step
  unfold ok_Q_step at hok
  unfold f_Q_step_m at hQ
  refine sp_P_waiting _ _ ?_
  have hok := hok _ rfl
  intro M2 h_; subst h_
  have hok := hok _ rfl
  refine ⟨fun hc => ?_, fun hc => ?_⟩
  · simp only [if_pos hc] at hQ
    have hok := hok.1 hc
    exact sp_Q_step_j1 _ _ _ hok hQ
  · simp only [if_neg hc] at hQ
    have hok := hok.2 hc
    intro M142 h_; subst h_
    have hok := hok _ rfl
    exact sp_Q_step_j1 _ _ _ hok hQ
def f_Q_valueOf_j1_v (x2 : Int32) : Int32 := x2
set_option maxRecDepth 100000 in
set_option maxHeartbeats 4000000 in
theorem sp_Q_valueOf_j1 (x2 : Int32) (Q : Int32 → Prop) (hQ : Q (f_Q_valueOf_j1_v x2)) : wp_Q_valueOf_j1 x2 Q := by
  unfold wp_Q_valueOf_j1
  unfold f_Q_valueOf_j1_v at hQ
  exact hQ
def f_Q_valueOf_v (M0 : Mem) (a1 : Int32) : Int32 := (if (8 : Int32) ≤ a1 then (if a1 = (8 : Int32) then (f_Q_valueOf_j1_v (M0 5 7)) else (f_Q_valueOf_j1_v (M0 5 8))) else (M0 17 ((tv_c1 ((a1 &&& (7 : Int32))).toNatClampNeg)).toNatClampNeg))
def ok_Q_valueOf (M0 : Mem) (a1 : Int32) : Prop := ((((8 : Int32) ≤ a1) → True) ∧ ((¬ (8 : Int32) ≤ a1) → vp_in (a1 &&& (7 : Int32)) 8 ∧ (vp_in (tv_c1 ((a1 &&& (7 : Int32))).toNatClampNeg) 8)))
set_option maxRecDepth 100000 in
set_option maxHeartbeats 4000000 in
theorem sp_Q_valueOf (M0 : Mem) (a1 : Int32) (Q : Int32 → Prop) (hok : ok_Q_valueOf M0 a1) (hQ : Q (f_Q_valueOf_v M0 a1)) : wp_Q_valueOf M0 a1 Q := by
  unfold wp_Q_valueOf
  unfold ok_Q_valueOf at hok
  unfold f_Q_valueOf_v at hQ
  refine ⟨fun hc => ?_, fun hc => ?_⟩
  · simp only [if_pos hc] at hQ
    refine ⟨fun hc => ?_, fun hc => ?_⟩
    · simp only [if_neg hc] at hQ
      exact sp_Q_valueOf_j1 _ _ hQ
    · simp only [if_pos hc] at hQ
      exact sp_Q_valueOf_j1 _ _ hQ
  · simp only [if_neg hc] at hQ
    have hok := hok.2 hc
    refine ⟨hok.1, ?_⟩
    have hok := hok.2
    refine ⟨hok, ?_⟩
    exact hQ
def f_Q_put_j1_m (M6 : Mem) : Mem := M6
set_option maxRecDepth 100000 in
set_option maxHeartbeats 4000000 in
theorem sp_Q_put_j1 (M6 : Mem) (Q : Mem → Prop) (hQ : Q (f_Q_put_j1_m M6)) : wp_Q_put_j1 M6 Q := by
  unfold wp_Q_put_j1
  unfold f_Q_put_j1_m at hQ
  exact hQ
def f_Q_put_m (M0 : Mem) (a1 : Int32) (a2 : Int32) : Mem := (if a1 = (1 : Int32) then let M10 : Mem := mst M0 17 6 (a2 &&& (240 : Int32)); (f_Q_put_j1_m M10) else (if (8 : Int32) ≤ a1 then (if a1 = (8 : Int32) then let M8 : Mem := mst M0 5 7 (a2 &&& (65535 : Int32)); (f_Q_put_j1_m M8) else let M7 : Mem := mst M0 5 8 (a2 &&& (65535 : Int32)); (f_Q_put_j1_m M7)) else let M9 : Mem := mst M0 17 ((tv_c1 ((a1 &&& (7 : Int32))).toNatClampNeg)).toNatClampNeg (a2 &&& (255 : Int32)); (f_Q_put_j1_m M9)))
def ok_Q_put (M0 : Mem) (a1 : Int32) (a2 : Int32) : Prop := (((¬ a1 = (1 : Int32)) → ((((8 : Int32) ≤ a1) → True) ∧ ((¬ (8 : Int32) ≤ a1) → vp_in (a1 &&& (7 : Int32)) 8 ∧ (vp_in (tv_c1 ((a1 &&& (7 : Int32))).toNatClampNeg) 8)))) ∧ ((a1 = (1 : Int32)) → True))
set_option maxRecDepth 100000 in
set_option maxHeartbeats 4000000 in
theorem sp_Q_put (M0 : Mem) (a1 : Int32) (a2 : Int32) (Q : Mem → Prop) (hok : ok_Q_put M0 a1 a2) (hQ : Q (f_Q_put_m M0 a1 a2)) : wp_Q_put M0 a1 a2 Q := by
  unfold wp_Q_put
  unfold ok_Q_put at hok
  unfold f_Q_put_m at hQ
  refine ⟨fun hc => ?_, fun hc => ?_⟩
  · simp only [if_neg hc] at hQ
    have hok := hok.1 hc
    refine ⟨fun hc => ?_, fun hc => ?_⟩
    · simp only [if_pos hc] at hQ
      refine ⟨fun hc => ?_, fun hc => ?_⟩
      · simp only [if_neg hc] at hQ
        intro M7 h_; subst h_
        exact sp_Q_put_j1 _ _ hQ
      · simp only [if_pos hc] at hQ
        intro M8 h_; subst h_
        exact sp_Q_put_j1 _ _ hQ
    · simp only [if_neg hc] at hQ
      have hok := hok.2 hc
      refine ⟨hok.1, ?_⟩
      have hok := hok.2
      refine ⟨hok, ?_⟩
      intro M9 h_; subst h_
      exact sp_Q_put_j1 _ _ hQ
  · simp only [if_pos hc] at hQ
    intro M10 h_; subst h_
    exact sp_Q_put_j1 _ _ hQ
def f_P_press_j1_v (x1 : Int32) (M5 : Mem) : Int32 := x1
def f_P_press_j1_m (x1 : Int32) (M5 : Mem) : Mem := M5
set_option maxRecDepth 100000 in
set_option maxHeartbeats 4000000 in
theorem sp_P_press_j1 (x1 : Int32) (M5 : Mem) (Q : Int32 → Mem → Prop) (hQ : Q (f_P_press_j1_v x1 M5) (f_P_press_j1_m x1 M5)) : wp_P_press_j1 x1 M5 Q := by
  unfold wp_P_press_j1
  unfold f_P_press_j1_v f_P_press_j1_m at hQ
  exact hQ
def f_P_press_v (M0 : Mem) (a1 : Int32) : Int32 := let x1 : Int32 := (M0 2 2); let M2 : Mem := mst M0 2 2 a1; (if (a1 &&& (x1 ^^^ (-1 : Int32))) = 0 then (f_P_press_j1_v x1 M2) else let M6 : Mem := mst M2 8 15 ((M2 8 15) ||| (16 : Int32)); (f_P_press_j1_v x1 M6))
def f_P_press_m (M0 : Mem) (a1 : Int32) : Mem := let x1 : Int32 := (M0 2 2); let M2 : Mem := mst M0 2 2 a1; (if (a1 &&& (x1 ^^^ (-1 : Int32))) = 0 then (f_P_press_j1_m x1 M2) else let M6 : Mem := mst M2 8 15 ((M2 8 15) ||| (16 : Int32)); (f_P_press_j1_m x1 M6))
set_option maxRecDepth 100000 in
set_option maxHeartbeats 4000000 in
theorem sp_P_press (M0 : Mem) (a1 : Int32) (Q : Int32 → Mem → Prop) (hQ : Q (f_P_press_v M0 a1) (f_P_press_m M0 a1)) : wp_P_press M0 a1 Q := by
  unfold wp_P_press
  unfold f_P_press_v f_P_press_m at hQ
  intro x1 h_; subst h_
  intro M2 h_; subst h_
  refine ⟨fun hc => ?_, fun hc => ?_⟩
  · simp only [if_pos hc] at hQ
    exact sp_P_press_j1 _ _ _ hQ
  · simp only [if_neg hc] at hQ
    intro M6 h_; subst h_
    exact sp_P_press_j1 _ _ _ hQ
def f_S_has_j1_v (x2 : Int32) : Int32 := x2
def ok_S_has_j1 (x2 : Int32) : Prop := isB x2
set_option maxRecDepth 100000 in
set_option maxHeartbeats 4000000 in
theorem sp_S_has_j1 (x2 : Int32) (Q : Int32 → Prop) (hok : ok_S_has_j1 x2) (hQ : Q (f_S_has_j1_v x2)) : wp_S_has_j1 x2 Q := by
  unfold wp_S_has_j1
  unfold ok_S_has_j1 at hok
  unfold f_S_has_j1_v at hQ
  refine ⟨hok, ?_⟩
  exact hQ
def f_S_has_v (M0 : Mem) (a1 : Int32) : Int32 := (if ((M0 8 64) &&& a1) = 0 then (f_S_has_j1_v (0 : Int32)) else (f_S_has_j1_v (1 : Int32)))
def ok_S_has (M0 : Mem) (a1 : Int32) : Prop := (((((M0 8 64) &&& a1) = 0) → ok_S_has_j1 (0 : Int32)) ∧ ((¬ ((M0 8 64) &&& a1) = 0) → ok_S_has_j1 (1 : Int32)))
set_option maxRecDepth 100000 in
set_option maxHeartbeats 4000000 in
theorem sp_S_has (M0 : Mem) (a1 : Int32) (Q : Int32 → Prop) (hok : ok_S_has M0 a1) (hQ : Q (f_S_has_v M0 a1)) : wp_S_has M0 a1 Q := by
  unfold wp_S_has
  unfold ok_S_has at hok
  unfold f_S_has_v at hQ
  refine ⟨fun hc => ?_, fun hc => ?_⟩
  · simp only [if_pos hc] at hQ
    have hok := hok.1 hc
    exact sp_S_has_j1 _ _ hok hQ
  · simp only [if_neg hc] at hQ
    have hok := hok.2 hc
    exact sp_S_has_j1 _ _ hok hQ
def f_S_numberAt_v (M0 : Mem) (a1 : Int32) (a2 : Int32) : Int32 := let x1 : Int32 := (((M0 9 ((a1 &&& (8191 : Int32))).toNatClampNeg) >>> (a2 &&& (31 : Int32))) &&& (1 : Int32)); let x2 : Int32 := (((M0 9 (((a1 + (1 : Int32)) &&& (8191 : Int32))).toNatClampNeg) >>> (a2 &&& (31 : Int32))) &&& (1 : Int32)); (x1 + ((2 : Int32) * x2))
def ok_S_numberAt (M0 : Mem) (a1 : Int32) (a2 : Int32) : Prop := vp_in (a1 &&& (8191 : Int32)) 8192 ∧ (∀ x1 : Int32, x1 = (((M0 9 ((a1 &&& (8191 : Int32))).toNatClampNeg) >>> (a2 &&& (31 : Int32))) &&& (1 : Int32)) → vp_in ((a1 + (1 : Int32)) &&& (8191 : Int32)) 8192)
set_option maxRecDepth 100000 in
set_option maxHeartbeats 4000000 in
theorem sp_S_numberAt (M0 : Mem) (a1 : Int32) (a2 : Int32) (Q : Int32 → Prop) (hok : ok_S_numberAt M0 a1 a2) (hQ : Q (f_S_numberAt_v M0 a1 a2)) : wp_S_numberAt M0 a1 a2 Q := by
  unfold wp_S_numberAt
  unfold ok_S_numberAt at hok
  unfold f_S_numberAt_v at hQ
  refine ⟨hok.1, ?_⟩
  have hok := hok.2
  intro x1 h_; subst h_
  have hok := hok _ rfl
  refine ⟨hok, ?_⟩
  intro x2 h_; subst h_
  exact hQ
def f_S_placeSprite_j4_m (x131 : Int32) (K1_m : Int32 → Mem → Mem) (M162 : Mem) : Mem := let x163 : Int32 := x131 + (1 : Int32); (K1_m x163 M162)
def ok_S_placeSprite_j4 (x131 : Int32) (K1_ok : Int32 → Mem → Prop) (M162 : Mem) : Prop := ∀ x163 : Int32, x163 = x131 + (1 : Int32) → K1_ok x163 M162
set_option maxRecDepth 100000 in
set_option maxHeartbeats 4000000 in
theorem sp_S_placeSprite_j4 (x131 : Int32) {Q : Mem → Prop} (K1 : Int32 → Mem → Prop) (K1_m : Int32 → Mem → Mem) (K1_ok : Int32 → Mem → Prop) (hK1 : ∀ (z0 : Int32) (z1 : Mem), K1_ok z0 z1 → Q (K1_m z0 z1) → K1 z0 z1) (M162 : Mem) (hok : ok_S_placeSprite_j4 x131 K1_ok M162) (hQ : Q (f_S_placeSprite_j4_m x131 K1_m M162)) : wp_S_placeSprite_j4 x131 K1 M162 Q := by
  unfold wp_S_placeSprite_j4
  unfold ok_S_placeSprite_j4 at hok
  unfold f_S_placeSprite_j4_m at hQ
  intro x163 h_; subst h_
  have hok := hok _ rfl
  exact hK1 _ _  hok hQ
def f_S_placeSprite_j5_m (x1 : Int32) (x87 : Int32) (x131 : Int32) (M132 : Mem) (x133 : Int32) (x153 : Int32) (K1_m : Int32 → Mem → Mem) : Mem := let M167 : Mem := mst M132 14 x133.toNatClampNeg x153; let M168 : Mem := mst M167 15 x133.toNatClampNeg x1; let M169 : Mem := mst M168 16 x133.toNatClampNeg x87; (f_S_placeSprite_j4_m x131 K1_m M169)
def ok_S_placeSprite_j5 (x1 : Int32) (x87 : Int32) (x131 : Int32) (M132 : Mem) (x133 : Int32) (x153 : Int32) (K1_ok : Int32 → Mem → Prop) : Prop := vp_in x133 160 ∧ (∀ M167 : Mem, M167 = mst M132 14 x133.toNatClampNeg x153 → vp_in x133 160 ∧ (∀ M168 : Mem, M168 = mst M167 15 x133.toNatClampNeg x1 → vp_in x133 160 ∧ (∀ M169 : Mem, M169 = mst M168 16 x133.toNatClampNeg x87 → ok_S_placeSprite_j4 x131 K1_ok M169)))
set_option maxRecDepth 100000 in
set_option maxHeartbeats 4000000 in
theorem sp_S_placeSprite_j5 (x1 : Int32) (x87 : Int32) (x131 : Int32) (M132 : Mem) (x133 : Int32) (x153 : Int32) {Q : Mem → Prop} (K1 : Int32 → Mem → Prop) (K1_m : Int32 → Mem → Mem) (K1_ok : Int32 → Mem → Prop) (hK1 : ∀ (z0 : Int32) (z1 : Mem), K1_ok z0 z1 → Q (K1_m z0 z1) → K1 z0 z1) (hok : ok_S_placeSprite_j5 x1 x87 x131 M132 x133 x153 K1_ok) (hQ : Q (f_S_placeSprite_j5_m x1 x87 x131 M132 x133 x153 K1_m)) : wp_S_placeSprite_j5 x1 x87 x131 M132 x133 x153 K1 Q := by
  unfold wp_S_placeSprite_j5
  unfold ok_S_placeSprite_j5 at hok
  unfold f_S_placeSprite_j5_m at hQ
  refine ⟨hok.1, ?_⟩
  have hok := hok.2
  intro M167 h_; subst h_
  have hok := hok _ rfl
  refine ⟨hok.1, ?_⟩
  have hok := hok.2
  intro M168 h_; subst h_
  have hok := hok _ rfl
  refine ⟨hok.1, ?_⟩
  have hok := hok.2
  intro M169 h_; subst h_
  have hok := hok _ rfl
  exact sp_S_placeSprite_j4 _ _ _ _ hK1 _  hok hQ
def f_S_placeSprite_j3_m (x1 : Int32) (x87 : Int32) (x130 : Int32) (x131 : Int32) (M132 : Mem) (x133 : Int32) (K1_m : Int32 → Mem → Mem) (x152 : Int32) : Mem := let x153 : Int32 := f_S_numberAt_v M132 x130 x152; (if x133 < 0 then (f_S_placeSprite_j4_m x131 K1_m M132) else (if (160 : Int32) ≤ x133 then (f_S_placeSprite_j4_m x131 K1_m M132) else (if x153 = 0 then (f_S_placeSprite_j4_m x131 K1_m M132) else (if (M132 14 x133.toNatClampNeg) = 0 then (f_S_placeSprite_j5_m x1 x87 x131 M132 x133 x153 K1_m) else (if (M132 15 x133.toNatClampNeg) ≤ x1 then (f_S_placeSprite_j4_m x131 K1_m M132) else (f_S_placeSprite_j5_m x1 x87 x131 M132 x133 x153 K1_m))))))
def ok_S_placeSprite_j3 (x1 : Int32) (x87 : Int32) (x130 : Int32) (x131 : Int32) (M132 : Mem) (x133 : Int32) (K1_ok : Int32 → Mem → Prop) (x152 : Int32) : Prop := ok_S_numberAt M132 x130 x152 ∧ (∀ x153 : Int32, x153 = f_S_numberAt_v M132 x130 x152 → (((x133 < 0) → ok_S_placeSprite_j4 x131 K1_ok M132) ∧ ((¬ x133 < 0) → ((((160 : Int32) ≤ x133) → ok_S_placeSprite_j4 x131 K1_ok M132) ∧ ((¬ (160 : Int32) ≤ x133) → (((x153 = 0) → ok_S_placeSprite_j4 x131 K1_ok M132) ∧ ((¬ x153 = 0) → vp_in x133 160 ∧ (((((M132 14 x133.toNatClampNeg) = 0) → ok_S_placeSprite_j5 x1 x87 x131 M132 x133 x153 K1_ok) ∧ ((¬ (M132 14 x133.toNatClampNeg) = 0) → vp_in x133 160 ∧ (((((M132 15 x133.toNatClampNeg) ≤ x1) → ok_S_placeSprite_j4 x131 K1_ok M132) ∧ ((¬ (M132 15 x133.toNatClampNeg) ≤ x1) → ok_S_placeSprite_j5 x1 x87 x131 M132 x133 x153 K1_ok)))))))))))))
set_option maxRecDepth 100000 in
set_option maxHeartbeats 4000000 in
theorem sp_S_placeSprite_j3 (x1 : Int32) (x87 : Int32) (x130 : Int32) (x131 : Int32) (M132 : Mem) (x133 : Int32) {Q : Mem → Prop} (K1 : Int32 → Mem → Prop) (K1_m : Int32 → Mem → Mem) (K1_ok : Int32 → Mem → Prop) (hK1 : ∀ (z0 : Int32) (z1 : Mem), K1_ok z0 z1 → Q (K1_m z0 z1) → K1 z0 z1) (x152 : Int32) (hok : ok_S_placeSprite_j3 x1 x87 x130 x131 M132 x133 K1_ok x152) (hQ : Q (f_S_placeSprite_j3_m x1 x87 x130 x131 M132 x133 K1_m x152)) : wp_S_placeSprite_j3 x1 x87 x130 x131 M132 x133 K1 x152 Q := by
  unfold wp_S_placeSprite_j3
  unfold ok_S_placeSprite_j3 at hok
  unfold f_S_placeSprite_j3_m at hQ
  refine sp_S_numberAt _ _ _ _ hok.1 ?_
  have hok := hok.2 _ rfl
  refine ⟨fun hc => ?_, fun hc => ?_⟩
  · simp only [if_pos hc] at hQ
    have hok := hok.1 hc
    exact sp_S_placeSprite_j4 _ _ _ _ hK1 _  hok hQ
  · simp only [if_neg hc] at hQ
    have hok := hok.2 hc
    refine ⟨fun hc => ?_, fun hc => ?_⟩
    · simp only [if_pos hc] at hQ
      have hok := hok.1 hc
      exact sp_S_placeSprite_j4 _ _ _ _ hK1 _  hok hQ
    · simp only [if_neg hc] at hQ
      have hok := hok.2 hc
      refine ⟨fun hc => ?_, fun hc => ?_⟩
      · simp only [if_pos hc] at hQ
        have hok := hok.1 hc
        exact sp_S_placeSprite_j4 _ _ _ _ hK1 _  hok hQ
      · simp only [if_neg hc] at hQ
        have hok := hok.2 hc
        refine ⟨hok.1, ?_⟩
        have hok := hok.2
        refine ⟨fun hc => ?_, fun hc => ?_⟩
        · simp only [if_pos hc] at hQ
          have hok := hok.1 hc
          exact sp_S_placeSprite_j5 _ _ _ _ _ _ _ _ _ hK1  hok hQ
        · simp only [if_neg hc] at hQ
          have hok := hok.2 hc
          refine ⟨hok.1, ?_⟩
          have hok := hok.2
          refine ⟨fun hc => ?_, fun hc => ?_⟩
          · simp only [if_pos hc] at hQ
            have hok := hok.1 hc
            exact sp_S_placeSprite_j4 _ _ _ _ hK1 _  hok hQ
          · simp only [if_neg hc] at hQ
            have hok := hok.2 hc
            exact sp_S_placeSprite_j5 _ _ _ _ _ _ _ _ _ hK1  hok hQ
def f_S_placeSprite_l1_m (x1 : Int32) (x87 : Int32) (x130 : Int32) (n : Nat) : Int32 → Mem → Mem := Nat.rec (motive := fun _ => Int32 → Mem → Mem) (fun _ _ => (fun _ _ => 0)) (fun _ K1_m x131 M132 => (if (8 : Int32) ≤ x131 then M132 else let x133 : Int32 := ((x1 - (8 : Int32)) + x131); (if (x87 &&& (32 : Int32)) = 0 then (f_S_placeSprite_j3_m x1 x87 x130 x131 M132 x133 K1_m ((7 : Int32) - x131)) else (f_S_placeSprite_j3_m x1 x87 x130 x131 M132 x133 K1_m x131)))) n
theorem f_S_placeSprite_l1_m_s (x1 : Int32) (x87 : Int32) (x130 : Int32) (n : Nat) (x131 : Int32) (M132 : Mem) : f_S_placeSprite_l1_m x1 x87 x130 (n + 1) x131 M132 = (let K1_m : Int32 → Mem → Mem := f_S_placeSprite_l1_m x1 x87 x130 n; (if (8 : Int32) ≤ x131 then M132 else let x133 : Int32 := ((x1 - (8 : Int32)) + x131); (if (x87 &&& (32 : Int32)) = 0 then (f_S_placeSprite_j3_m x1 x87 x130 x131 M132 x133 K1_m ((7 : Int32) - x131)) else (f_S_placeSprite_j3_m x1 x87 x130 x131 M132 x133 K1_m x131)))) := rfl
def ok_S_placeSprite_l1 (x1 : Int32) (x87 : Int32) (x130 : Int32) (n : Nat) : Int32 → Mem → Prop := Nat.rec (motive := fun _ => Int32 → Mem → Prop) (fun _ _ => False) (fun _ K1_ok x131 M132 => ((((8 : Int32) ≤ x131) → True) ∧ ((¬ (8 : Int32) ≤ x131) → ∀ x133 : Int32, x133 = ((x1 - (8 : Int32)) + x131) → ((((x87 &&& (32 : Int32)) = 0) → ok_S_placeSprite_j3 x1 x87 x130 x131 M132 x133 K1_ok ((7 : Int32) - x131)) ∧ ((¬ (x87 &&& (32 : Int32)) = 0) → ok_S_placeSprite_j3 x1 x87 x130 x131 M132 x133 K1_ok x131))))) n
set_option maxRecDepth 100000 in
set_option maxHeartbeats 4000000 in
theorem sp_S_placeSprite_l1 (x1 : Int32) (x87 : Int32) (x130 : Int32) {Q : Mem → Prop} : ∀ (n : Nat) (x131 : Int32) (M132 : Mem), ok_S_placeSprite_l1 x1 x87 x130 n x131 M132 → Q (f_S_placeSprite_l1_m x1 x87 x130 n x131 M132) → wp_S_placeSprite_l1 x1 x87 x130 Q n x131 M132 := by
  intro n
  induction n with
  | zero => intro x131 M132 hok; exact False.elim hok
  | succ n ih =>
    intro x131 M132 hok hQ
    have hK1 := ih
    rw [f_S_placeSprite_l1_m_s] at hQ
    refine ⟨fun hc => ?_, fun hc => ?_⟩
    · simp only [if_pos hc] at hQ
      exact hQ
    · simp only [if_neg hc] at hQ
      have hok := hok.2 hc
      intro x133 h_; subst h_
      have hok := hok _ rfl
      refine ⟨fun hc => ?_, fun hc => ?_⟩
      · simp only [if_pos hc] at hQ
        have hok := hok.1 hc
        exact sp_S_placeSprite_j3 _ _ _ _ _ _ _ _ _ hK1 _  hok hQ
      · simp only [if_neg hc] at hQ
        have hok := hok.2 hc
        exact sp_S_placeSprite_j3 _ _ _ _ _ _ _ _ _ hK1 _  hok hQ
def f_S_placeSprite_j2_m (M0 : Mem) (x1 : Int32) (x86 : Int32) (x87 : Int32) (x129 : Int32) : Mem := let x130 : Int32 := (((16 : Int32) * x86) + ((2 : Int32) * x129)); (f_S_placeSprite_l1_m x1 x87 x130 9 (0 : Int32) M0)
def ok_S_placeSprite_j2 (M0 : Mem) (x1 : Int32) (x86 : Int32) (x87 : Int32) (x129 : Int32) : Prop := ∀ x130 : Int32, x130 = (((16 : Int32) * x86) + ((2 : Int32) * x129)) → ok_S_placeSprite_l1 x1 x87 x130 9 (0 : Int32) M0
set_option maxRecDepth 100000 in
set_option maxHeartbeats 4000000 in
theorem sp_S_placeSprite_j2 (M0 : Mem) (x1 : Int32) (x86 : Int32) (x87 : Int32) (x129 : Int32) (Q : Mem → Prop) (hok : ok_S_placeSprite_j2 M0 x1 x86 x87 x129) (hQ : Q (f_S_placeSprite_j2_m M0 x1 x86 x87 x129)) : wp_S_placeSprite_j2 M0 x1 x86 x87 x129 Q := by
  unfold wp_S_placeSprite_j2
  unfold ok_S_placeSprite_j2 at hok
  unfold f_S_placeSprite_j2_m at hQ
  intro x130 h_; subst h_
  have hok := hok _ rfl
  exact ⟨_, sp_S_placeSprite_l1 _ _ _ _ _ _  hok hQ⟩
def f_S_placeSprite_j1_m (M0 : Mem) (a1 : Int32) (a2 : Int32) (a3 : Int32) (x1 : Int32) (x86 : Int32) : Mem := let x87 : Int32 := (M0 10 ((a1 + (3 : Int32))).toNatClampNeg); (if (x87 &&& (64 : Int32)) = 0 then (f_S_placeSprite_j2_m M0 x1 x86 x87 a2) else (f_S_placeSprite_j2_m M0 x1 x86 x87 ((a3 - (1 : Int32)) - a2)))
def ok_S_placeSprite_j1 (M0 : Mem) (a1 : Int32) (a2 : Int32) (a3 : Int32) (x1 : Int32) (x86 : Int32) : Prop := vp_in (a1 + (3 : Int32)) 160 ∧ (∀ x87 : Int32, x87 = (M0 10 ((a1 + (3 : Int32))).toNatClampNeg) → ((((x87 &&& (64 : Int32)) = 0) → ok_S_placeSprite_j2 M0 x1 x86 x87 a2) ∧ ((¬ (x87 &&& (64 : Int32)) = 0) → ok_S_placeSprite_j2 M0 x1 x86 x87 ((a3 - (1 : Int32)) - a2))))
set_option maxRecDepth 100000 in
set_option maxHeartbeats 4000000 in
theorem sp_S_placeSprite_j1 (M0 : Mem) (a1 : Int32) (a2 : Int32) (a3 : Int32) (x1 : Int32) (x86 : Int32) (Q : Mem → Prop) (hok : ok_S_placeSprite_j1 M0 a1 a2 a3 x1 x86) (hQ : Q (f_S_placeSprite_j1_m M0 a1 a2 a3 x1 x86)) : wp_S_placeSprite_j1 M0 a1 a2 a3 x1 x86 Q := by
  unfold wp_S_placeSprite_j1
  unfold ok_S_placeSprite_j1 at hok
  unfold f_S_placeSprite_j1_m at hQ
  refine ⟨hok.1, ?_⟩
  have hok := hok.2
  intro x87 h_; subst h_
  have hok := hok _ rfl
  refine ⟨fun hc => ?_, fun hc => ?_⟩
  · simp only [if_pos hc] at hQ
    have hok := hok.1 hc
    exact sp_S_placeSprite_j2 _ _ _ _ _ _ hok hQ
  · simp only [if_neg hc] at hQ
    have hok := hok.2 hc
    exact sp_S_placeSprite_j2 _ _ _ _ _ _ hok hQ
def f_S_placeSprite_m (M0 : Mem) (a1 : Int32) (a2 : Int32) (a3 : Int32) : Mem := let x1 : Int32 := (M0 10 ((a1 + (1 : Int32))).toNatClampNeg); (if a3 = (16 : Int32) then (f_S_placeSprite_j1_m M0 a1 a2 a3 x1 ((M0 10 ((a1 + (2 : Int32))).toNatClampNeg) &&& (254 : Int32))) else (f_S_placeSprite_j1_m M0 a1 a2 a3 x1 (M0 10 ((a1 + (2 : Int32))).toNatClampNeg)))
def ok_S_placeSprite (M0 : Mem) (a1 : Int32) (a2 : Int32) (a3 : Int32) : Prop := vp_in (a1 + (1 : Int32)) 160 ∧ (∀ x1 : Int32, x1 = (M0 10 ((a1 + (1 : Int32))).toNatClampNeg) → (((¬ a3 = (16 : Int32)) → vp_in (a1 + (2 : Int32)) 160 ∧ (ok_S_placeSprite_j1 M0 a1 a2 a3 x1 (M0 10 ((a1 + (2 : Int32))).toNatClampNeg))) ∧ ((a3 = (16 : Int32)) → vp_in (a1 + (2 : Int32)) 160 ∧ (ok_S_placeSprite_j1 M0 a1 a2 a3 x1 ((M0 10 ((a1 + (2 : Int32))).toNatClampNeg) &&& (254 : Int32))))))
set_option maxRecDepth 100000 in
set_option maxHeartbeats 4000000 in
theorem sp_S_placeSprite (M0 : Mem) (a1 : Int32) (a2 : Int32) (a3 : Int32) (Q : Mem → Prop) (hok : ok_S_placeSprite M0 a1 a2 a3) (hQ : Q (f_S_placeSprite_m M0 a1 a2 a3)) : wp_S_placeSprite M0 a1 a2 a3 Q := by
  unfold wp_S_placeSprite
  unfold ok_S_placeSprite at hok
  unfold f_S_placeSprite_m at hQ
  refine ⟨hok.1, ?_⟩
  have hok := hok.2
  intro x1 h_; subst h_
  have hok := hok _ rfl
  refine ⟨fun hc => ?_, fun hc => ?_⟩
  · simp only [if_neg hc] at hQ
    have hok := hok.1 hc
    refine ⟨hok.1, ?_⟩
    have hok := hok.2
    exact sp_S_placeSprite_j1 _ _ _ _ _ _ _ hok hQ
  · simp only [if_pos hc] at hQ
    have hok := hok.2 hc
    refine ⟨hok.1, ?_⟩
    have hok := hok.2
    exact sp_S_placeSprite_j1 _ _ _ _ _ _ _ hok hQ
def f_S_chooseSprites_j2_m (M31 : Mem) : Mem := M31
set_option maxRecDepth 100000 in
set_option maxHeartbeats 4000000 in
theorem sp_S_chooseSprites_j2 (M31 : Mem) (Q : Mem → Prop) (hQ : Q (f_S_chooseSprites_j2_m M31)) : wp_S_chooseSprites_j2 M31 Q := by
  unfold wp_S_chooseSprites_j2
  unfold f_S_chooseSprites_j2_m at hQ
  exact hQ
def f_S_chooseSprites_j3_m (x30 : Int32) (K1_m : Int32 → Int32 → Mem → Mem) (x49 : Int32) (M50 : Mem) : Mem := let x51 : Int32 := x30 + (1 : Int32); (K1_m x49 x51 M50)
def ok_S_chooseSprites_j3 (x30 : Int32) (K1_ok : Int32 → Int32 → Mem → Prop) (x49 : Int32) (M50 : Mem) : Prop := ∀ x51 : Int32, x51 = x30 + (1 : Int32) → K1_ok x49 x51 M50
set_option maxRecDepth 100000 in
set_option maxHeartbeats 4000000 in
theorem sp_S_chooseSprites_j3 (x30 : Int32) {Q : Mem → Prop} (K1 : Int32 → Int32 → Mem → Prop) (K1_m : Int32 → Int32 → Mem → Mem) (K1_ok : Int32 → Int32 → Mem → Prop) (hK1 : ∀ (z0 : Int32) (z1 : Int32) (z2 : Mem), K1_ok z0 z1 z2 → Q (K1_m z0 z1 z2) → K1 z0 z1 z2) (x49 : Int32) (M50 : Mem) (hok : ok_S_chooseSprites_j3 x30 K1_ok x49 M50) (hQ : Q (f_S_chooseSprites_j3_m x30 K1_m x49 M50)) : wp_S_chooseSprites_j3 x30 K1 x49 M50 Q := by
  unfold wp_S_chooseSprites_j3
  unfold ok_S_chooseSprites_j3 at hok
  unfold f_S_chooseSprites_j3_m at hQ
  intro x51 h_; subst h_
  have hok := hok _ rfl
  exact hK1 _ _ _  hok hQ
def f_S_chooseSprites_l1_m (a1 : Int32) (x28 : Int32) (n : Nat) : Int32 → Int32 → Mem → Mem := Nat.rec (motive := fun _ => Int32 → Int32 → Mem → Mem) (fun _ _ _ => (fun _ _ => 0)) (fun _ K1_m x29 x30 M31 => (if (40 : Int32) ≤ x30 then (f_S_chooseSprites_j2_m M31) else (if (10 : Int32) ≤ x29 then (f_S_chooseSprites_j2_m M31) else let x43 : Int32 := (a1 - ((M31 10 (((4 : Int32) * x30)).toNatClampNeg) - (16 : Int32))); (if x43 < 0 then (f_S_chooseSprites_j3_m x30 K1_m x29 M31) else (if x28 ≤ x43 then (f_S_chooseSprites_j3_m x30 K1_m x29 M31) else let M52 : Mem := f_S_placeSprite_m M31 ((4 : Int32) * x30) x43 x28; let x53 : Int32 := x29 + (1 : Int32); (f_S_chooseSprites_j3_m x30 K1_m x53 M52)))))) n
theorem f_S_chooseSprites_l1_m_s (a1 : Int32) (x28 : Int32) (n : Nat) (x29 : Int32) (x30 : Int32) (M31 : Mem) : f_S_chooseSprites_l1_m a1 x28 (n + 1) x29 x30 M31 = (let K1_m : Int32 → Int32 → Mem → Mem := f_S_chooseSprites_l1_m a1 x28 n; (if (40 : Int32) ≤ x30 then (f_S_chooseSprites_j2_m M31) else (if (10 : Int32) ≤ x29 then (f_S_chooseSprites_j2_m M31) else let x43 : Int32 := (a1 - ((M31 10 (((4 : Int32) * x30)).toNatClampNeg) - (16 : Int32))); (if x43 < 0 then (f_S_chooseSprites_j3_m x30 K1_m x29 M31) else (if x28 ≤ x43 then (f_S_chooseSprites_j3_m x30 K1_m x29 M31) else let M52 : Mem := f_S_placeSprite_m M31 ((4 : Int32) * x30) x43 x28; let x53 : Int32 := x29 + (1 : Int32); (f_S_chooseSprites_j3_m x30 K1_m x53 M52)))))) := rfl
def ok_S_chooseSprites_l1 (a1 : Int32) (x28 : Int32) (n : Nat) : Int32 → Int32 → Mem → Prop := Nat.rec (motive := fun _ => Int32 → Int32 → Mem → Prop) (fun _ _ _ => False) (fun _ K1_ok x29 x30 M31 => ((((40 : Int32) ≤ x30) → True) ∧ ((¬ (40 : Int32) ≤ x30) → ((((10 : Int32) ≤ x29) → True) ∧ ((¬ (10 : Int32) ≤ x29) → vp_in ((4 : Int32) * x30) 160 ∧ (∀ x43 : Int32, x43 = (a1 - ((M31 10 (((4 : Int32) * x30)).toNatClampNeg) - (16 : Int32))) → (((x43 < 0) → ok_S_chooseSprites_j3 x30 K1_ok x29 M31) ∧ ((¬ x43 < 0) → (((x28 ≤ x43) → ok_S_chooseSprites_j3 x30 K1_ok x29 M31) ∧ ((¬ x28 ≤ x43) → ok_S_placeSprite M31 ((4 : Int32) * x30) x43 x28 ∧ (∀ M52 : Mem, M52 = f_S_placeSprite_m M31 ((4 : Int32) * x30) x43 x28 → ∀ x53 : Int32, x53 = x29 + (1 : Int32) → ok_S_chooseSprites_j3 x30 K1_ok x53 M52))))))))))) n
set_option maxRecDepth 100000 in
set_option maxHeartbeats 4000000 in
theorem sp_S_chooseSprites_l1 (a1 : Int32) (x28 : Int32) {Q : Mem → Prop} : ∀ (n : Nat) (x29 : Int32) (x30 : Int32) (M31 : Mem), ok_S_chooseSprites_l1 a1 x28 n x29 x30 M31 → Q (f_S_chooseSprites_l1_m a1 x28 n x29 x30 M31) → wp_S_chooseSprites_l1 a1 x28 Q n x29 x30 M31 := by
  intro n
  induction n with
  | zero => intro x29 x30 M31 hok; exact False.elim hok
  | succ n ih =>
    intro x29 x30 M31 hok hQ
    have hK1 := ih
    rw [f_S_chooseSprites_l1_m_s] at hQ
    refine ⟨fun hc => ?_, fun hc => ?_⟩
    · simp only [if_pos hc] at hQ
      exact sp_S_chooseSprites_j2 _ _ hQ
    · simp only [if_neg hc] at hQ
      have hok := hok.2 hc
      refine ⟨fun hc => ?_, fun hc => ?_⟩
      · simp only [if_pos hc] at hQ
        exact sp_S_chooseSprites_j2 _ _ hQ
      · simp only [if_neg hc] at hQ
        have hok := hok.2 hc
        refine ⟨hok.1, ?_⟩
        have hok := hok.2
        intro x43 h_; subst h_
        have hok := hok _ rfl
        refine ⟨fun hc => ?_, fun hc => ?_⟩
        · simp only [if_pos hc] at hQ
          have hok := hok.1 hc
          exact sp_S_chooseSprites_j3 _ _ _ _ hK1 _ _  hok hQ
        · simp only [if_neg hc] at hQ
          have hok := hok.2 hc
          refine ⟨fun hc => ?_, fun hc => ?_⟩
          · simp only [if_pos hc] at hQ
            have hok := hok.1 hc
            exact sp_S_chooseSprites_j3 _ _ _ _ hK1 _ _  hok hQ
          · simp only [if_neg hc] at hQ
            have hok := hok.2 hc
            refine sp_S_placeSprite _ _ _ _ _ hok.1 ?_
            have hok := hok.2 _ rfl
            intro x53 h_; subst h_
            have hok := hok _ rfl
            exact sp_S_chooseSprites_j3 _ _ _ _ hK1 _ _  hok hQ
def f_S_chooseSprites_j1_m (M0 : Mem) (a1 : Int32) (x28 : Int32) : Mem := (f_S_chooseSprites_l1_m a1 x28 41 (0 : Int32) (0 : Int32) M0)
def ok_S_chooseSprites_j1 (M0 : Mem) (a1 : Int32) (x28 : Int32) : Prop := ok_S_chooseSprites_l1 a1 x28 41 (0 : Int32) (0 : Int32) M0
set_option maxRecDepth 100000 in
set_option maxHeartbeats 4000000 in
theorem sp_S_chooseSprites_j1 (M0 : Mem) (a1 : Int32) (x28 : Int32) (Q : Mem → Prop) (hok : ok_S_chooseSprites_j1 M0 a1 x28) (hQ : Q (f_S_chooseSprites_j1_m M0 a1 x28)) : wp_S_chooseSprites_j1 M0 a1 x28 Q := by
  unfold wp_S_chooseSprites_j1
  unfold ok_S_chooseSprites_j1 at hok
  unfold f_S_chooseSprites_j1_m at hQ
  exact ⟨_, sp_S_chooseSprites_l1 _ _ _ _ _ _  hok hQ⟩
def f_S_chooseSprites_m (M0 : Mem) (a1 : Int32) : Mem := let x1 : Int32 := f_S_has_v M0 (4 : Int32); (if x1 = 0 then (f_S_chooseSprites_j1_m M0 a1 (8 : Int32)) else (f_S_chooseSprites_j1_m M0 a1 (16 : Int32)))
def ok_S_chooseSprites (M0 : Mem) (a1 : Int32) : Prop := ok_S_has M0 (4 : Int32) ∧ (∀ x1 : Int32, x1 = f_S_has_v M0 (4 : Int32) → (((x1 = 0) → ok_S_chooseSprites_j1 M0 a1 (8 : Int32)) ∧ ((¬ x1 = 0) → ok_S_chooseSprites_j1 M0 a1 (16 : Int32))))
set_option maxRecDepth 100000 in
set_option maxHeartbeats 4000000 in
theorem sp_S_chooseSprites (M0 : Mem) (a1 : Int32) (Q : Mem → Prop) (hok : ok_S_chooseSprites M0 a1) (hQ : Q (f_S_chooseSprites_m M0 a1)) : wp_S_chooseSprites M0 a1 Q := by
  unfold wp_S_chooseSprites
  unfold ok_S_chooseSprites at hok
  unfold f_S_chooseSprites_m at hQ
  refine sp_S_has _ _ _ hok.1 ?_
  have hok := hok.2 _ rfl
  refine ⟨fun hc => ?_, fun hc => ?_⟩
  · simp only [if_pos hc] at hQ
    have hok := hok.1 hc
    exact sp_S_chooseSprites_j1 _ _ _ _ hok hQ
  · simp only [if_neg hc] at hQ
    have hok := hok.2 hc
    exact sp_S_chooseSprites_j1 _ _ _ _ hok hQ
def f_S_mapNumber_j2_v (M0 : Mem) (a2 : Int32) (a3 : Int32) (x13 : Int32) : Int32 := let x14 : Int32 := f_S_numberAt_v M0 (x13 + ((2 : Int32) * (a3 &&& (7 : Int32)))) ((7 : Int32) - (a2 &&& (7 : Int32))); x14
def ok_S_mapNumber_j2 (M0 : Mem) (a2 : Int32) (a3 : Int32) (x13 : Int32) : Prop := ok_S_numberAt M0 (x13 + ((2 : Int32) * (a3 &&& (7 : Int32)))) ((7 : Int32) - (a2 &&& (7 : Int32)))
set_option maxRecDepth 100000 in
set_option maxHeartbeats 4000000 in
theorem sp_S_mapNumber_j2 (M0 : Mem) (a2 : Int32) (a3 : Int32) (x13 : Int32) (Q : Int32 → Prop) (hok : ok_S_mapNumber_j2 M0 a2 a3 x13) (hQ : Q (f_S_mapNumber_j2_v M0 a2 a3 x13)) : wp_S_mapNumber_j2 M0 a2 a3 x13 Q := by
  unfold wp_S_mapNumber_j2
  unfold ok_S_mapNumber_j2 at hok
  unfold f_S_mapNumber_j2_v at hQ
  refine sp_S_numberAt _ _ _ _ hok ?_
  exact hQ
def f_S_mapNumber_j1_v (M0 : Mem) (a2 : Int32) (a3 : Int32) (x8 : Int32) : Int32 := let x9 : Int32 := (M0 9 (((x8 + ((32 : Int32) * ((a3 >>> ((3 : Int32) &&& (31 : Int32))) &&& (31 : Int32)))) + ((a2 >>> ((3 : Int32) &&& (31 : Int32))) &&& (31 : Int32)))).toNatClampNeg); let x10 : Int32 := f_S_has_v M0 (16 : Int32); (if x10 = 0 then (f_S_mapNumber_j2_v M0 a2 a3 ((4096 : Int32) + ((16 : Int32) * (x9.toInt8.toInt32)))) else (f_S_mapNumber_j2_v M0 a2 a3 ((16 : Int32) * x9)))
def ok_S_mapNumber_j1 (M0 : Mem) (a2 : Int32) (a3 : Int32) (x8 : Int32) : Prop := vp_in ((x8 + ((32 : Int32) * ((a3 >>> ((3 : Int32) &&& (31 : Int32))) &&& (31 : Int32)))) + ((a2 >>> ((3 : Int32) &&& (31 : Int32))) &&& (31 : Int32))) 8192 ∧ (∀ x9 : Int32, x9 = (M0 9 (((x8 + ((32 : Int32) * ((a3 >>> ((3 : Int32) &&& (31 : Int32))) &&& (31 : Int32)))) + ((a2 >>> ((3 : Int32) &&& (31 : Int32))) &&& (31 : Int32)))).toNatClampNeg) → ok_S_has M0 (16 : Int32) ∧ (∀ x10 : Int32, x10 = f_S_has_v M0 (16 : Int32) → (((x10 = 0) → ok_S_mapNumber_j2 M0 a2 a3 ((4096 : Int32) + ((16 : Int32) * (x9.toInt8.toInt32)))) ∧ ((¬ x10 = 0) → ok_S_mapNumber_j2 M0 a2 a3 ((16 : Int32) * x9)))))
set_option maxRecDepth 100000 in
set_option maxHeartbeats 4000000 in
theorem sp_S_mapNumber_j1 (M0 : Mem) (a2 : Int32) (a3 : Int32) (x8 : Int32) (Q : Int32 → Prop) (hok : ok_S_mapNumber_j1 M0 a2 a3 x8) (hQ : Q (f_S_mapNumber_j1_v M0 a2 a3 x8)) : wp_S_mapNumber_j1 M0 a2 a3 x8 Q := by
  unfold wp_S_mapNumber_j1
  unfold ok_S_mapNumber_j1 at hok
  unfold f_S_mapNumber_j1_v at hQ
  refine ⟨hok.1, ?_⟩
  have hok := hok.2
  intro x9 h_; subst h_
  have hok := hok _ rfl
  refine sp_S_has _ _ _ hok.1 ?_
  have hok := hok.2 _ rfl
  refine ⟨fun hc => ?_, fun hc => ?_⟩
  · simp only [if_pos hc] at hQ
    have hok := hok.1 hc
    exact sp_S_mapNumber_j2 _ _ _ _ _ hok hQ
  · simp only [if_neg hc] at hQ
    have hok := hok.2 hc
    exact sp_S_mapNumber_j2 _ _ _ _ _ hok hQ
def f_S_mapNumber_v (M0 : Mem) (a1 : Int32) (a2 : Int32) (a3 : Int32) : Int32 := (if a1 = 0 then (f_S_mapNumber_j1_v M0 a2 a3 (6144 : Int32)) else (f_S_mapNumber_j1_v M0 a2 a3 (7168 : Int32)))
def ok_S_mapNumber (M0 : Mem) (a1 : Int32) (a2 : Int32) (a3 : Int32) : Prop := (((a1 = 0) → ok_S_mapNumber_j1 M0 a2 a3 (6144 : Int32)) ∧ ((¬ a1 = 0) → ok_S_mapNumber_j1 M0 a2 a3 (7168 : Int32)))
set_option maxRecDepth 100000 in
set_option maxHeartbeats 4000000 in
theorem sp_S_mapNumber (M0 : Mem) (a1 : Int32) (a2 : Int32) (a3 : Int32) (Q : Int32 → Prop) (hok : ok_S_mapNumber M0 a1 a2 a3) (hQ : Q (f_S_mapNumber_v M0 a1 a2 a3)) : wp_S_mapNumber M0 a1 a2 a3 Q := by
  unfold wp_S_mapNumber
  unfold ok_S_mapNumber at hok
  unfold f_S_mapNumber_v at hQ
  refine ⟨fun hc => ?_, fun hc => ?_⟩
  · simp only [if_pos hc] at hQ
    have hok := hok.1 hc
    exact sp_S_mapNumber_j1 _ _ _ _ _ hok hQ
  · simp only [if_neg hc] at hQ
    have hok := hok.2 hc
    exact sp_S_mapNumber_j1 _ _ _ _ _ hok hQ
def f_S_backgroundNumber_j1_v (M0 : Mem) (a1 : Int32) (a2 : Int32) : Int32 := let x9 : Int32 := f_S_has_v M0 (8 : Int32); let x10 : Int32 := f_S_mapNumber_v M0 x9 ((a1 + (M0 8 67)) &&& (255 : Int32)) ((a2 + (M0 8 66)) &&& (255 : Int32)); x10
def ok_S_backgroundNumber_j1 (M0 : Mem) (a1 : Int32) (a2 : Int32) : Prop := ok_S_has M0 (8 : Int32) ∧ (∀ x9 : Int32, x9 = f_S_has_v M0 (8 : Int32) → ok_S_mapNumber M0 x9 ((a1 + (M0 8 67)) &&& (255 : Int32)) ((a2 + (M0 8 66)) &&& (255 : Int32)))
set_option maxRecDepth 100000 in
set_option maxHeartbeats 4000000 in
theorem sp_S_backgroundNumber_j1 (M0 : Mem) (a1 : Int32) (a2 : Int32) (Q : Int32 → Prop) (hok : ok_S_backgroundNumber_j1 M0 a1 a2) (hQ : Q (f_S_backgroundNumber_j1_v M0 a1 a2)) : wp_S_backgroundNumber_j1 M0 a1 a2 Q := by
  unfold wp_S_backgroundNumber_j1
  unfold ok_S_backgroundNumber_j1 at hok
  unfold f_S_backgroundNumber_j1_v at hQ
  refine sp_S_has _ _ _ hok.1 ?_
  have hok := hok.2 _ rfl
  refine sp_S_mapNumber _ _ _ _ _ hok ?_
  exact hQ
def f_S_backgroundNumber_v (M0 : Mem) (a1 : Int32) (a2 : Int32) : Int32 := let x1 : Int32 := f_S_has_v M0 (1 : Int32); (if x1 = 0 then (0 : Int32) else let x2 : Int32 := (M0 8 75); let x3 : Int32 := (M0 8 74); let x4 : Int32 := f_S_has_v M0 (32 : Int32); (if x4 = 0 then (f_S_backgroundNumber_j1_v M0 a1 a2) else (if a2 < x3 then (f_S_backgroundNumber_j1_v M0 a1 a2) else (if (a1 + (7 : Int32)) < x2 then (f_S_backgroundNumber_j1_v M0 a1 a2) else let x11 : Int32 := f_S_has_v M0 (64 : Int32); let x12 : Int32 := f_S_mapNumber_v M0 x11 ((a1 + (7 : Int32)) - x2) (a2 - x3); x12))))
def ok_S_backgroundNumber (M0 : Mem) (a1 : Int32) (a2 : Int32) : Prop := ok_S_has M0 (1 : Int32) ∧ (∀ x1 : Int32, x1 = f_S_has_v M0 (1 : Int32) → (((¬ x1 = 0) → ∀ x2 : Int32, x2 = (M0 8 75) → ∀ x3 : Int32, x3 = (M0 8 74) → ok_S_has M0 (32 : Int32) ∧ (∀ x4 : Int32, x4 = f_S_has_v M0 (32 : Int32) → (((x4 = 0) → ok_S_backgroundNumber_j1 M0 a1 a2) ∧ ((¬ x4 = 0) → (((a2 < x3) → ok_S_backgroundNumber_j1 M0 a1 a2) ∧ ((¬ a2 < x3) → ((((a1 + (7 : Int32)) < x2) → ok_S_backgroundNumber_j1 M0 a1 a2) ∧ ((¬ (a1 + (7 : Int32)) < x2) → ok_S_has M0 (64 : Int32) ∧ (∀ x11 : Int32, x11 = f_S_has_v M0 (64 : Int32) → ok_S_mapNumber M0 x11 ((a1 + (7 : Int32)) - x2) (a2 - x3)))))))))) ∧ ((x1 = 0) → True)))
set_option maxRecDepth 100000 in
set_option maxHeartbeats 4000000 in
theorem sp_S_backgroundNumber (M0 : Mem) (a1 : Int32) (a2 : Int32) (Q : Int32 → Prop) (hok : ok_S_backgroundNumber M0 a1 a2) (hQ : Q (f_S_backgroundNumber_v M0 a1 a2)) : wp_S_backgroundNumber M0 a1 a2 Q := by
  unfold wp_S_backgroundNumber
  unfold ok_S_backgroundNumber at hok
  unfold f_S_backgroundNumber_v at hQ
  refine sp_S_has _ _ _ hok.1 ?_
  have hok := hok.2 _ rfl
  refine ⟨fun hc => ?_, fun hc => ?_⟩
  · simp only [if_neg hc] at hQ
    have hok := hok.1 hc
    intro x2 h_; subst h_
    have hok := hok _ rfl
    intro x3 h_; subst h_
    have hok := hok _ rfl
    refine sp_S_has _ _ _ hok.1 ?_
    have hok := hok.2 _ rfl
    refine ⟨fun hc => ?_, fun hc => ?_⟩
    · simp only [if_pos hc] at hQ
      have hok := hok.1 hc
      exact sp_S_backgroundNumber_j1 _ _ _ _ hok hQ
    · simp only [if_neg hc] at hQ
      have hok := hok.2 hc
      refine ⟨fun hc => ?_, fun hc => ?_⟩
      · simp only [if_pos hc] at hQ
        have hok := hok.1 hc
        exact sp_S_backgroundNumber_j1 _ _ _ _ hok hQ
      · simp only [if_neg hc] at hQ
        have hok := hok.2 hc
        refine ⟨fun hc => ?_, fun hc => ?_⟩
        · simp only [if_pos hc] at hQ
          have hok := hok.1 hc
          exact sp_S_backgroundNumber_j1 _ _ _ _ hok hQ
        · simp only [if_neg hc] at hQ
          have hok := hok.2 hc
          refine sp_S_has _ _ _ hok.1 ?_
          have hok := hok.2 _ rfl
          refine sp_S_mapNumber _ _ _ _ _ hok ?_
          exact hQ
  · simp only [if_pos hc] at hQ
    exact hQ
def f_S_colour_j1_v (M0 : Mem) (a2 : Int32) : Int32 := (((M0 8 71) >>> (((2 : Int32) * a2) &&& (31 : Int32))) &&& (3 : Int32))
set_option maxRecDepth 100000 in
set_option maxHeartbeats 4000000 in
theorem sp_S_colour_j1 (M0 : Mem) (a2 : Int32) (Q : Int32 → Prop) (hQ : Q (f_S_colour_j1_v M0 a2)) : wp_S_colour_j1 M0 a2 Q := by
  unfold wp_S_colour_j1
  unfold f_S_colour_j1_v at hQ
  exact hQ
def f_S_colour_j2_v (M0 : Mem) (x1 : Int32) (x2 : Int32) : Int32 := (((M0 8 (((72 : Int32) + ((x2 >>> ((4 : Int32) &&& (31 : Int32))) &&& (1 : Int32)))).toNatClampNeg) >>> (((2 : Int32) * x1) &&& (31 : Int32))) &&& (3 : Int32))
def ok_S_colour_j2 (M0 : Mem) (x1 : Int32) (x2 : Int32) : Prop := vp_in ((72 : Int32) + ((x2 >>> ((4 : Int32) &&& (31 : Int32))) &&& (1 : Int32))) 256
set_option maxRecDepth 100000 in
set_option maxHeartbeats 4000000 in
theorem sp_S_colour_j2 (M0 : Mem) (x1 : Int32) (x2 : Int32) (Q : Int32 → Prop) (hok : ok_S_colour_j2 M0 x1 x2) (hQ : Q (f_S_colour_j2_v M0 x1 x2)) : wp_S_colour_j2 M0 x1 x2 Q := by
  unfold wp_S_colour_j2
  unfold ok_S_colour_j2 at hok
  unfold f_S_colour_j2_v at hQ
  refine ⟨hok, ?_⟩
  exact hQ
def f_S_colour_v (M0 : Mem) (a1 : Int32) (a2 : Int32) : Int32 := let x1 : Int32 := (M0 14 a1.toNatClampNeg); let x2 : Int32 := (M0 16 a1.toNatClampNeg); (if x1 = 0 then (f_S_colour_j1_v M0 a2) else (if (x2 &&& (128 : Int32)) = 0 then (f_S_colour_j2_v M0 x1 x2) else (if a2 = 0 then (f_S_colour_j2_v M0 x1 x2) else (f_S_colour_j1_v M0 a2))))
def ok_S_colour (M0 : Mem) (a1 : Int32) (a2 : Int32) : Prop := vp_in a1 160 ∧ (∀ x1 : Int32, x1 = (M0 14 a1.toNatClampNeg) → vp_in a1 160 ∧ (∀ x2 : Int32, x2 = (M0 16 a1.toNatClampNeg) → (((x1 = 0) → True) ∧ ((¬ x1 = 0) → ((((x2 &&& (128 : Int32)) = 0) → ok_S_colour_j2 M0 x1 x2) ∧ ((¬ (x2 &&& (128 : Int32)) = 0) → (((a2 = 0) → ok_S_colour_j2 M0 x1 x2) ∧ ((¬ a2 = 0) → True))))))))
set_option maxRecDepth 100000 in
set_option maxHeartbeats 4000000 in
theorem sp_S_colour (M0 : Mem) (a1 : Int32) (a2 : Int32) (Q : Int32 → Prop) (hok : ok_S_colour M0 a1 a2) (hQ : Q (f_S_colour_v M0 a1 a2)) : wp_S_colour M0 a1 a2 Q := by
  unfold wp_S_colour
  unfold ok_S_colour at hok
  unfold f_S_colour_v at hQ
  refine ⟨hok.1, ?_⟩
  have hok := hok.2
  intro x1 h_; subst h_
  have hok := hok _ rfl
  refine ⟨hok.1, ?_⟩
  have hok := hok.2
  intro x2 h_; subst h_
  have hok := hok _ rfl
  refine ⟨fun hc => ?_, fun hc => ?_⟩
  · simp only [if_pos hc] at hQ
    exact sp_S_colour_j1 _ _ _ hQ
  · simp only [if_neg hc] at hQ
    have hok := hok.2 hc
    refine ⟨fun hc => ?_, fun hc => ?_⟩
    · simp only [if_pos hc] at hQ
      have hok := hok.1 hc
      exact sp_S_colour_j2 _ _ _ _ hok hQ
    · simp only [if_neg hc] at hQ
      have hok := hok.2 hc
      refine ⟨fun hc => ?_, fun hc => ?_⟩
      · simp only [if_pos hc] at hQ
        have hok := hok.1 hc
        exact sp_S_colour_j2 _ _ _ _ hok hQ
      · simp only [if_neg hc] at hQ
        exact sp_S_colour_j1 _ _ _ hQ
def f_A_fill14_l1_m (a2 : Int32) (n : Nat) : Int32 → Mem → Mem := Nat.rec (motive := fun _ => Int32 → Mem → Mem) (fun _ _ => (fun _ _ => 0)) (fun _ K1_m x1 M2 => (if (160 : Int32) ≤ x1 then M2 else let M3 : Mem := mst M2 14 x1.toNatClampNeg a2; let x4 : Int32 := x1 + (1 : Int32); (K1_m x4 M3))) n
theorem f_A_fill14_l1_m_s (a2 : Int32) (n : Nat) (x1 : Int32) (M2 : Mem) : f_A_fill14_l1_m a2 (n + 1) x1 M2 = (let K1_m : Int32 → Mem → Mem := f_A_fill14_l1_m a2 n; (if (160 : Int32) ≤ x1 then M2 else let M3 : Mem := mst M2 14 x1.toNatClampNeg a2; let x4 : Int32 := x1 + (1 : Int32); (K1_m x4 M3))) := rfl
def ok_A_fill14_l1 (a2 : Int32) (n : Nat) : Int32 → Mem → Prop := Nat.rec (motive := fun _ => Int32 → Mem → Prop) (fun _ _ => False) (fun _ K1_ok x1 M2 => ((((160 : Int32) ≤ x1) → True) ∧ ((¬ (160 : Int32) ≤ x1) → vp_in x1 160 ∧ (∀ M3 : Mem, M3 = mst M2 14 x1.toNatClampNeg a2 → ∀ x4 : Int32, x4 = x1 + (1 : Int32) → K1_ok x4 M3)))) n
set_option maxRecDepth 100000 in
set_option maxHeartbeats 4000000 in
theorem sp_A_fill14_l1 (a2 : Int32) {Q : Mem → Prop} : ∀ (n : Nat) (x1 : Int32) (M2 : Mem), ok_A_fill14_l1 a2 n x1 M2 → Q (f_A_fill14_l1_m a2 n x1 M2) → wp_A_fill14_l1 a2 Q n x1 M2 := by
  intro n
  induction n with
  | zero => intro x1 M2 hok; exact False.elim hok
  | succ n ih =>
    intro x1 M2 hok hQ
    have hK1 := ih
    rw [f_A_fill14_l1_m_s] at hQ
    refine ⟨fun hc => ?_, fun hc => ?_⟩
    · simp only [if_pos hc] at hQ
      exact hQ
    · simp only [if_neg hc] at hQ
      have hok := hok.2 hc
      refine ⟨hok.1, ?_⟩
      have hok := hok.2
      intro M3 h_; subst h_
      have hok := hok _ rfl
      intro x4 h_; subst h_
      have hok := hok _ rfl
      exact hK1 _ _  hok hQ
def f_A_fill14_m (M0 : Mem) (a2 : Int32) : Mem := (f_A_fill14_l1_m a2 161 (0 : Int32) M0)
def ok_A_fill14 (M0 : Mem) (a2 : Int32) : Prop := ok_A_fill14_l1 a2 161 (0 : Int32) M0
set_option maxRecDepth 100000 in
set_option maxHeartbeats 4000000 in
theorem sp_A_fill14 (M0 : Mem) (a2 : Int32) (Q : Mem → Prop) (hok : ok_A_fill14 M0 a2) (hQ : Q (f_A_fill14_m M0 a2)) : wp_A_fill14 M0 a2 Q := by
  unfold wp_A_fill14
  unfold ok_A_fill14 at hok
  unfold f_A_fill14_m at hQ
  exact ⟨_, sp_A_fill14_l1 _ _ _ _  hok hQ⟩
def f_S_make_l1_v (a1 : Int32) (n : Nat) : Int32 → Int32 → Mem → Int32 := Nat.rec (motive := fun _ => Int32 → Int32 → Mem → Int32) (fun _ _ _ => 0) (fun _ K1_v x15 x16 M17 => (if (160 : Int32) ≤ x16 then x15 else let x18 : Int32 := f_S_backgroundNumber_v M17 x16 a1; let x19 : Int32 := f_S_colour_v M17 x16 x18; let M20 : Mem := mst M17 13 x16.toNatClampNeg x19; let x21 : Int32 := (x15 + (M20 13 x16.toNatClampNeg)); let x22 : Int32 := x16 + (1 : Int32); (K1_v x21 x22 M20))) n
theorem f_S_make_l1_v_s (a1 : Int32) (n : Nat) (x15 : Int32) (x16 : Int32) (M17 : Mem) : f_S_make_l1_v a1 (n + 1) x15 x16 M17 = (let K1_v : Int32 → Int32 → Mem → Int32 := f_S_make_l1_v a1 n; (if (160 : Int32) ≤ x16 then x15 else let x18 : Int32 := f_S_backgroundNumber_v M17 x16 a1; let x19 : Int32 := f_S_colour_v M17 x16 x18; let M20 : Mem := mst M17 13 x16.toNatClampNeg x19; let x21 : Int32 := (x15 + (M20 13 x16.toNatClampNeg)); let x22 : Int32 := x16 + (1 : Int32); (K1_v x21 x22 M20))) := rfl
def f_S_make_l1_m (a1 : Int32) (n : Nat) : Int32 → Int32 → Mem → Mem := Nat.rec (motive := fun _ => Int32 → Int32 → Mem → Mem) (fun _ _ _ => (fun _ _ => 0)) (fun _ K1_m x15 x16 M17 => (if (160 : Int32) ≤ x16 then M17 else let x18 : Int32 := f_S_backgroundNumber_v M17 x16 a1; let x19 : Int32 := f_S_colour_v M17 x16 x18; let M20 : Mem := mst M17 13 x16.toNatClampNeg x19; let x21 : Int32 := (x15 + (M20 13 x16.toNatClampNeg)); let x22 : Int32 := x16 + (1 : Int32); (K1_m x21 x22 M20))) n
theorem f_S_make_l1_m_s (a1 : Int32) (n : Nat) (x15 : Int32) (x16 : Int32) (M17 : Mem) : f_S_make_l1_m a1 (n + 1) x15 x16 M17 = (let K1_m : Int32 → Int32 → Mem → Mem := f_S_make_l1_m a1 n; (if (160 : Int32) ≤ x16 then M17 else let x18 : Int32 := f_S_backgroundNumber_v M17 x16 a1; let x19 : Int32 := f_S_colour_v M17 x16 x18; let M20 : Mem := mst M17 13 x16.toNatClampNeg x19; let x21 : Int32 := (x15 + (M20 13 x16.toNatClampNeg)); let x22 : Int32 := x16 + (1 : Int32); (K1_m x21 x22 M20))) := rfl
def ok_S_make_l1 (a1 : Int32) (n : Nat) : Int32 → Int32 → Mem → Prop := Nat.rec (motive := fun _ => Int32 → Int32 → Mem → Prop) (fun _ _ _ => False) (fun _ K1_ok x15 x16 M17 => ((((160 : Int32) ≤ x16) → True) ∧ ((¬ (160 : Int32) ≤ x16) → ok_S_backgroundNumber M17 x16 a1 ∧ (∀ x18 : Int32, x18 = f_S_backgroundNumber_v M17 x16 a1 → ok_S_colour M17 x16 x18 ∧ (∀ x19 : Int32, x19 = f_S_colour_v M17 x16 x18 → vp_in x16 160 ∧ (∀ M20 : Mem, M20 = mst M17 13 x16.toNatClampNeg x19 → vp_in x16 160 ∧ (∀ x21 : Int32, x21 = (x15 + (M20 13 x16.toNatClampNeg)) → ∀ x22 : Int32, x22 = x16 + (1 : Int32) → K1_ok x21 x22 M20))))))) n
set_option maxRecDepth 100000 in
set_option maxHeartbeats 4000000 in
theorem sp_S_make_l1 (a1 : Int32) {Q : Int32 → Mem → Prop} : ∀ (n : Nat) (x15 : Int32) (x16 : Int32) (M17 : Mem), ok_S_make_l1 a1 n x15 x16 M17 → Q (f_S_make_l1_v a1 n x15 x16 M17) (f_S_make_l1_m a1 n x15 x16 M17) → wp_S_make_l1 a1 Q n x15 x16 M17 := by
  intro n
  induction n with
  | zero => intro x15 x16 M17 hok; exact False.elim hok
  | succ n ih =>
    intro x15 x16 M17 hok hQ
    have hK1 := ih
    rw [f_S_make_l1_v_s, f_S_make_l1_m_s] at hQ
    refine ⟨fun hc => ?_, fun hc => ?_⟩
    · simp only [if_pos hc] at hQ
      exact hQ
    · simp only [if_neg hc] at hQ
      have hok := hok.2 hc
      refine sp_S_backgroundNumber _ _ _ _ hok.1 ?_
      have hok := hok.2 _ rfl
      refine sp_S_colour _ _ _ _ hok.1 ?_
      have hok := hok.2 _ rfl
      refine ⟨hok.1, ?_⟩
      have hok := hok.2
      intro M20 h_; subst h_
      have hok := hok _ rfl
      refine ⟨hok.1, ?_⟩
      have hok := hok.2
      intro x21 h_; subst h_
      have hok := hok _ rfl
      intro x22 h_; subst h_
      have hok := hok _ rfl
      exact hK1 _ _ _  hok hQ
def f_S_make_j1_v (a1 : Int32) (M14 : Mem) : Int32 := (f_S_make_l1_v a1 161 (0 : Int32) (0 : Int32) M14)
def f_S_make_j1_m (a1 : Int32) (M14 : Mem) : Mem := (f_S_make_l1_m a1 161 (0 : Int32) (0 : Int32) M14)
def ok_S_make_j1 (a1 : Int32) (M14 : Mem) : Prop := ok_S_make_l1 a1 161 (0 : Int32) (0 : Int32) M14
set_option maxRecDepth 100000 in
set_option maxHeartbeats 4000000 in
theorem sp_S_make_j1 (a1 : Int32) (M14 : Mem) (Q : Int32 → Mem → Prop) (hok : ok_S_make_j1 a1 M14) (hQ : Q (f_S_make_j1_v a1 M14) (f_S_make_j1_m a1 M14)) : wp_S_make_j1 a1 M14 Q := by
  unfold wp_S_make_j1
  unfold ok_S_make_j1 at hok
  unfold f_S_make_j1_v f_S_make_j1_m at hQ
  exact ⟨_, sp_S_make_l1 _ _ _ _ _  hok hQ⟩
def f_S_make_v (M0 : Mem) (a1 : Int32) : Int32 := let x1 : Int32 := f_S_has_v M0 (128 : Int32); (if x1 = 0 then (0 : Int32) else let M2 : Mem := f_A_fill14_m M0 (0 : Int32); let x3 : Int32 := f_S_has_v M2 (2 : Int32); (if x3 = 0 then (f_S_make_j1_v a1 M2) else let M23 : Mem := f_S_chooseSprites_m M2 a1; (f_S_make_j1_v a1 M23)))
def f_S_make_m (M0 : Mem) (a1 : Int32) : Mem := let x1 : Int32 := f_S_has_v M0 (128 : Int32); (if x1 = 0 then let M24 : Mem := f_A_fill13_m M0 (0 : Int32); M24 else let M2 : Mem := f_A_fill14_m M0 (0 : Int32); let x3 : Int32 := f_S_has_v M2 (2 : Int32); (if x3 = 0 then (f_S_make_j1_m a1 M2) else let M23 : Mem := f_S_chooseSprites_m M2 a1; (f_S_make_j1_m a1 M23)))
def ok_S_make (M0 : Mem) (a1 : Int32) : Prop := ok_S_has M0 (128 : Int32) ∧ (∀ x1 : Int32, x1 = f_S_has_v M0 (128 : Int32) → (((¬ x1 = 0) → ok_A_fill14 M0 (0 : Int32) ∧ (∀ M2 : Mem, M2 = f_A_fill14_m M0 (0 : Int32) → ok_S_has M2 (2 : Int32) ∧ (∀ x3 : Int32, x3 = f_S_has_v M2 (2 : Int32) → (((x3 = 0) → ok_S_make_j1 a1 M2) ∧ ((¬ x3 = 0) → ok_S_chooseSprites M2 a1 ∧ (∀ M23 : Mem, M23 = f_S_chooseSprites_m M2 a1 → ok_S_make_j1 a1 M23)))))) ∧ ((x1 = 0) → ok_A_fill13 M0 (0 : Int32))))
set_option maxRecDepth 100000 in
set_option maxHeartbeats 4000000 in
theorem sp_S_make (M0 : Mem) (a1 : Int32) (Q : Int32 → Mem → Prop) (hok : ok_S_make M0 a1) (hQ : Q (f_S_make_v M0 a1) (f_S_make_m M0 a1)) : wp_S_make M0 a1 Q := by
  unfold wp_S_make
  unfold ok_S_make at hok
  unfold f_S_make_v f_S_make_m at hQ
  refine sp_S_has _ _ _ hok.1 ?_
  have hok := hok.2 _ rfl
  refine ⟨fun hc => ?_, fun hc => ?_⟩
  · simp only [if_neg hc] at hQ
    have hok := hok.1 hc
    refine sp_A_fill14 _ _ _ hok.1 ?_
    have hok := hok.2 _ rfl
    refine sp_S_has _ _ _ hok.1 ?_
    have hok := hok.2 _ rfl
    refine ⟨fun hc => ?_, fun hc => ?_⟩
    · simp only [if_pos hc] at hQ
      have hok := hok.1 hc
      exact sp_S_make_j1 _ _ _ hok hQ
    · simp only [if_neg hc] at hQ
      have hok := hok.2 hc
      refine sp_S_chooseSprites _ _ _ hok.1 ?_
      have hok := hok.2 _ rfl
      exact sp_S_make_j1 _ _ _ hok hQ
  · simp only [if_pos hc] at hQ
    have hok := hok.2 hc
    refine sp_A_fill13 _ _ _ hok ?_
    exact hQ
def f_R_zeros3_l1_m (n : Nat) : Int32 → Mem → Mem := Nat.rec (motive := fun _ => Int32 → Mem → Mem) (fun _ _ => (fun _ _ => 0)) (fun _ K1_m x1 M2 => (if (8192 : Int32) ≤ x1 then M2 else let M3 : Mem := mst M2 3 x1.toNatClampNeg (0 : Int32); let x4 : Int32 := x1 + (1 : Int32); (K1_m x4 M3))) n
theorem f_R_zeros3_l1_m_s (n : Nat) (x1 : Int32) (M2 : Mem) : f_R_zeros3_l1_m  (n + 1) x1 M2 = (let K1_m : Int32 → Mem → Mem := f_R_zeros3_l1_m  n; (if (8192 : Int32) ≤ x1 then M2 else let M3 : Mem := mst M2 3 x1.toNatClampNeg (0 : Int32); let x4 : Int32 := x1 + (1 : Int32); (K1_m x4 M3))) := rfl
def ok_R_zeros3_l1 (n : Nat) : Int32 → Mem → Prop := Nat.rec (motive := fun _ => Int32 → Mem → Prop) (fun _ _ => False) (fun _ K1_ok x1 M2 => ((((8192 : Int32) ≤ x1) → True) ∧ ((¬ (8192 : Int32) ≤ x1) → vp_in x1 8192 ∧ (∀ M3 : Mem, M3 = mst M2 3 x1.toNatClampNeg (0 : Int32) → ∀ x4 : Int32, x4 = x1 + (1 : Int32) → K1_ok x4 M3)))) n
set_option maxRecDepth 100000 in
set_option maxHeartbeats 4000000 in
theorem sp_R_zeros3_l1 {Q : Mem → Prop} : ∀ (n : Nat) (x1 : Int32) (M2 : Mem), ok_R_zeros3_l1  n x1 M2 → Q (f_R_zeros3_l1_m  n x1 M2) → wp_R_zeros3_l1  Q n x1 M2 := by
  intro n
  induction n with
  | zero => intro x1 M2 hok; exact False.elim hok
  | succ n ih =>
    intro x1 M2 hok hQ
    have hK1 := ih
    rw [f_R_zeros3_l1_m_s] at hQ
    refine ⟨fun hc => ?_, fun hc => ?_⟩
    · simp only [if_pos hc] at hQ
      exact hQ
    · simp only [if_neg hc] at hQ
      have hok := hok.2 hc
      refine ⟨hok.1, ?_⟩
      have hok := hok.2
      intro M3 h_; subst h_
      have hok := hok _ rfl
      intro x4 h_; subst h_
      have hok := hok _ rfl
      exact hK1 _ _  hok hQ
def f_R_zeros3_m (M0 : Mem) : Mem := (f_R_zeros3_l1_m 8193 (0 : Int32) M0)
def ok_R_zeros3 (M0 : Mem) : Prop := ok_R_zeros3_l1 8193 (0 : Int32) M0
set_option maxRecDepth 100000 in
set_option maxHeartbeats 4000000 in
theorem sp_R_zeros3 (M0 : Mem) (Q : Mem → Prop) (hok : ok_R_zeros3 M0) (hQ : Q (f_R_zeros3_m M0)) : wp_R_zeros3 M0 Q := by
  unfold wp_R_zeros3
  unfold ok_R_zeros3 at hok
  unfold f_R_zeros3_m at hQ
  exact ⟨_, sp_R_zeros3_l1 _ _ _  hok hQ⟩
def f_R_zeros4_l1_m (n : Nat) : Int32 → Mem → Mem := Nat.rec (motive := fun _ => Int32 → Mem → Mem) (fun _ _ => (fun _ _ => 0)) (fun _ K1_m x1 M2 => (if (1024 : Int32) ≤ x1 then M2 else let M3 : Mem := mst M2 4 x1.toNatClampNeg (0 : Int32); let x4 : Int32 := x1 + (1 : Int32); (K1_m x4 M3))) n
theorem f_R_zeros4_l1_m_s (n : Nat) (x1 : Int32) (M2 : Mem) : f_R_zeros4_l1_m  (n + 1) x1 M2 = (let K1_m : Int32 → Mem → Mem := f_R_zeros4_l1_m  n; (if (1024 : Int32) ≤ x1 then M2 else let M3 : Mem := mst M2 4 x1.toNatClampNeg (0 : Int32); let x4 : Int32 := x1 + (1 : Int32); (K1_m x4 M3))) := rfl
def ok_R_zeros4_l1 (n : Nat) : Int32 → Mem → Prop := Nat.rec (motive := fun _ => Int32 → Mem → Prop) (fun _ _ => False) (fun _ K1_ok x1 M2 => ((((1024 : Int32) ≤ x1) → True) ∧ ((¬ (1024 : Int32) ≤ x1) → vp_in x1 1024 ∧ (∀ M3 : Mem, M3 = mst M2 4 x1.toNatClampNeg (0 : Int32) → ∀ x4 : Int32, x4 = x1 + (1 : Int32) → K1_ok x4 M3)))) n
set_option maxRecDepth 100000 in
set_option maxHeartbeats 4000000 in
theorem sp_R_zeros4_l1 {Q : Mem → Prop} : ∀ (n : Nat) (x1 : Int32) (M2 : Mem), ok_R_zeros4_l1  n x1 M2 → Q (f_R_zeros4_l1_m  n x1 M2) → wp_R_zeros4_l1  Q n x1 M2 := by
  intro n
  induction n with
  | zero => intro x1 M2 hok; exact False.elim hok
  | succ n ih =>
    intro x1 M2 hok hQ
    have hK1 := ih
    rw [f_R_zeros4_l1_m_s] at hQ
    refine ⟨fun hc => ?_, fun hc => ?_⟩
    · simp only [if_pos hc] at hQ
      exact hQ
    · simp only [if_neg hc] at hQ
      have hok := hok.2 hc
      refine ⟨hok.1, ?_⟩
      have hok := hok.2
      intro M3 h_; subst h_
      have hok := hok _ rfl
      intro x4 h_; subst h_
      have hok := hok _ rfl
      exact hK1 _ _  hok hQ
def f_R_zeros4_m (M0 : Mem) : Mem := (f_R_zeros4_l1_m 1025 (0 : Int32) M0)
def ok_R_zeros4 (M0 : Mem) : Prop := ok_R_zeros4_l1 1025 (0 : Int32) M0
set_option maxRecDepth 100000 in
set_option maxHeartbeats 4000000 in
theorem sp_R_zeros4 (M0 : Mem) (Q : Mem → Prop) (hok : ok_R_zeros4 M0) (hQ : Q (f_R_zeros4_m M0)) : wp_R_zeros4 M0 Q := by
  unfold wp_R_zeros4
  unfold ok_R_zeros4 at hok
  unfold f_R_zeros4_m at hQ
  exact ⟨_, sp_R_zeros4_l1 _ _ _  hok hQ⟩
def f_R_zeros5_l1_m (n : Nat) : Int32 → Mem → Mem := Nat.rec (motive := fun _ => Int32 → Mem → Mem) (fun _ _ => (fun _ _ => 0)) (fun _ K1_m x1 M2 => (if (160 : Int32) ≤ x1 then M2 else let M3 : Mem := mst M2 5 x1.toNatClampNeg (0 : Int32); let x4 : Int32 := x1 + (1 : Int32); (K1_m x4 M3))) n
theorem f_R_zeros5_l1_m_s (n : Nat) (x1 : Int32) (M2 : Mem) : f_R_zeros5_l1_m  (n + 1) x1 M2 = (let K1_m : Int32 → Mem → Mem := f_R_zeros5_l1_m  n; (if (160 : Int32) ≤ x1 then M2 else let M3 : Mem := mst M2 5 x1.toNatClampNeg (0 : Int32); let x4 : Int32 := x1 + (1 : Int32); (K1_m x4 M3))) := rfl
def ok_R_zeros5_l1 (n : Nat) : Int32 → Mem → Prop := Nat.rec (motive := fun _ => Int32 → Mem → Prop) (fun _ _ => False) (fun _ K1_ok x1 M2 => ((((160 : Int32) ≤ x1) → True) ∧ ((¬ (160 : Int32) ≤ x1) → vp_in x1 160 ∧ (∀ M3 : Mem, M3 = mst M2 5 x1.toNatClampNeg (0 : Int32) → ∀ x4 : Int32, x4 = x1 + (1 : Int32) → K1_ok x4 M3)))) n
set_option maxRecDepth 100000 in
set_option maxHeartbeats 4000000 in
theorem sp_R_zeros5_l1 {Q : Mem → Prop} : ∀ (n : Nat) (x1 : Int32) (M2 : Mem), ok_R_zeros5_l1  n x1 M2 → Q (f_R_zeros5_l1_m  n x1 M2) → wp_R_zeros5_l1  Q n x1 M2 := by
  intro n
  induction n with
  | zero => intro x1 M2 hok; exact False.elim hok
  | succ n ih =>
    intro x1 M2 hok hQ
    have hK1 := ih
    rw [f_R_zeros5_l1_m_s] at hQ
    refine ⟨fun hc => ?_, fun hc => ?_⟩
    · simp only [if_pos hc] at hQ
      exact hQ
    · simp only [if_neg hc] at hQ
      have hok := hok.2 hc
      refine ⟨hok.1, ?_⟩
      have hok := hok.2
      intro M3 h_; subst h_
      have hok := hok _ rfl
      intro x4 h_; subst h_
      have hok := hok _ rfl
      exact hK1 _ _  hok hQ
def f_R_zeros5_m (M0 : Mem) : Mem := (f_R_zeros5_l1_m 161 (0 : Int32) M0)
def ok_R_zeros5 (M0 : Mem) : Prop := ok_R_zeros5_l1 161 (0 : Int32) M0
set_option maxRecDepth 100000 in
set_option maxHeartbeats 4000000 in
theorem sp_R_zeros5 (M0 : Mem) (Q : Mem → Prop) (hok : ok_R_zeros5 M0) (hQ : Q (f_R_zeros5_m M0)) : wp_R_zeros5 M0 Q := by
  unfold wp_R_zeros5
  unfold ok_R_zeros5 at hok
  unfold f_R_zeros5_m at hQ
  exact ⟨_, sp_R_zeros5_l1 _ _ _  hok hQ⟩
def f_R_zeros6_l1_m (n : Nat) : Int32 → Mem → Mem := Nat.rec (motive := fun _ => Int32 → Mem → Mem) (fun _ _ => (fun _ _ => 0)) (fun _ K1_m x1 M2 => (if (127 : Int32) ≤ x1 then M2 else let M3 : Mem := mst M2 6 x1.toNatClampNeg (0 : Int32); let x4 : Int32 := x1 + (1 : Int32); (K1_m x4 M3))) n
theorem f_R_zeros6_l1_m_s (n : Nat) (x1 : Int32) (M2 : Mem) : f_R_zeros6_l1_m  (n + 1) x1 M2 = (let K1_m : Int32 → Mem → Mem := f_R_zeros6_l1_m  n; (if (127 : Int32) ≤ x1 then M2 else let M3 : Mem := mst M2 6 x1.toNatClampNeg (0 : Int32); let x4 : Int32 := x1 + (1 : Int32); (K1_m x4 M3))) := rfl
def ok_R_zeros6_l1 (n : Nat) : Int32 → Mem → Prop := Nat.rec (motive := fun _ => Int32 → Mem → Prop) (fun _ _ => False) (fun _ K1_ok x1 M2 => ((((127 : Int32) ≤ x1) → True) ∧ ((¬ (127 : Int32) ≤ x1) → vp_in x1 127 ∧ (∀ M3 : Mem, M3 = mst M2 6 x1.toNatClampNeg (0 : Int32) → ∀ x4 : Int32, x4 = x1 + (1 : Int32) → K1_ok x4 M3)))) n
set_option maxRecDepth 100000 in
set_option maxHeartbeats 4000000 in
theorem sp_R_zeros6_l1 {Q : Mem → Prop} : ∀ (n : Nat) (x1 : Int32) (M2 : Mem), ok_R_zeros6_l1  n x1 M2 → Q (f_R_zeros6_l1_m  n x1 M2) → wp_R_zeros6_l1  Q n x1 M2 := by
  intro n
  induction n with
  | zero => intro x1 M2 hok; exact False.elim hok
  | succ n ih =>
    intro x1 M2 hok hQ
    have hK1 := ih
    rw [f_R_zeros6_l1_m_s] at hQ
    refine ⟨fun hc => ?_, fun hc => ?_⟩
    · simp only [if_pos hc] at hQ
      exact hQ
    · simp only [if_neg hc] at hQ
      have hok := hok.2 hc
      refine ⟨hok.1, ?_⟩
      have hok := hok.2
      intro M3 h_; subst h_
      have hok := hok _ rfl
      intro x4 h_; subst h_
      have hok := hok _ rfl
      exact hK1 _ _  hok hQ
def f_R_zeros6_m (M0 : Mem) : Mem := (f_R_zeros6_l1_m 128 (0 : Int32) M0)
def ok_R_zeros6 (M0 : Mem) : Prop := ok_R_zeros6_l1 128 (0 : Int32) M0
set_option maxRecDepth 100000 in
set_option maxHeartbeats 4000000 in
theorem sp_R_zeros6 (M0 : Mem) (Q : Mem → Prop) (hok : ok_R_zeros6 M0) (hQ : Q (f_R_zeros6_m M0)) : wp_R_zeros6 M0 Q := by
  unfold wp_R_zeros6
  unfold ok_R_zeros6 at hok
  unfold f_R_zeros6_m at hQ
  exact ⟨_, sp_R_zeros6_l1 _ _ _  hok hQ⟩
def f_R_zeros7_l1_m (n : Nat) : Int32 → Mem → Mem := Nat.rec (motive := fun _ => Int32 → Mem → Mem) (fun _ _ => (fun _ _ => 0)) (fun _ K1_m x1 M2 => (if (160 : Int32) ≤ x1 then M2 else let M3 : Mem := mst M2 7 x1.toNatClampNeg (0 : Int32); let x4 : Int32 := x1 + (1 : Int32); (K1_m x4 M3))) n
theorem f_R_zeros7_l1_m_s (n : Nat) (x1 : Int32) (M2 : Mem) : f_R_zeros7_l1_m  (n + 1) x1 M2 = (let K1_m : Int32 → Mem → Mem := f_R_zeros7_l1_m  n; (if (160 : Int32) ≤ x1 then M2 else let M3 : Mem := mst M2 7 x1.toNatClampNeg (0 : Int32); let x4 : Int32 := x1 + (1 : Int32); (K1_m x4 M3))) := rfl
def ok_R_zeros7_l1 (n : Nat) : Int32 → Mem → Prop := Nat.rec (motive := fun _ => Int32 → Mem → Prop) (fun _ _ => False) (fun _ K1_ok x1 M2 => ((((160 : Int32) ≤ x1) → True) ∧ ((¬ (160 : Int32) ≤ x1) → vp_in x1 160 ∧ (∀ M3 : Mem, M3 = mst M2 7 x1.toNatClampNeg (0 : Int32) → ∀ x4 : Int32, x4 = x1 + (1 : Int32) → K1_ok x4 M3)))) n
set_option maxRecDepth 100000 in
set_option maxHeartbeats 4000000 in
theorem sp_R_zeros7_l1 {Q : Mem → Prop} : ∀ (n : Nat) (x1 : Int32) (M2 : Mem), ok_R_zeros7_l1  n x1 M2 → Q (f_R_zeros7_l1_m  n x1 M2) → wp_R_zeros7_l1  Q n x1 M2 := by
  intro n
  induction n with
  | zero => intro x1 M2 hok; exact False.elim hok
  | succ n ih =>
    intro x1 M2 hok hQ
    have hK1 := ih
    rw [f_R_zeros7_l1_m_s] at hQ
    refine ⟨fun hc => ?_, fun hc => ?_⟩
    · simp only [if_pos hc] at hQ
      exact hQ
    · simp only [if_neg hc] at hQ
      have hok := hok.2 hc
      refine ⟨hok.1, ?_⟩
      have hok := hok.2
      intro M3 h_; subst h_
      have hok := hok _ rfl
      intro x4 h_; subst h_
      have hok := hok _ rfl
      exact hK1 _ _  hok hQ
def f_R_zeros7_m (M0 : Mem) : Mem := (f_R_zeros7_l1_m 161 (0 : Int32) M0)
def ok_R_zeros7 (M0 : Mem) : Prop := ok_R_zeros7_l1 161 (0 : Int32) M0
set_option maxRecDepth 100000 in
set_option maxHeartbeats 4000000 in
theorem sp_R_zeros7 (M0 : Mem) (Q : Mem → Prop) (hok : ok_R_zeros7 M0) (hQ : Q (f_R_zeros7_m M0)) : wp_R_zeros7 M0 Q := by
  unfold wp_R_zeros7
  unfold ok_R_zeros7 at hok
  unfold f_R_zeros7_m at hQ
  exact ⟨_, sp_R_zeros7_l1 _ _ _  hok hQ⟩
def f_R_reset_m (M0 : Mem) : Mem := let M1 : Mem := f_R_zeros3_m M0; let M2 : Mem := f_R_zeros4_m M1; let M3 : Mem := f_R_zeros5_m M2; let M4 : Mem := f_R_zeros6_m M3; let M5 : Mem := f_R_zeros7_m M4; let M6 : Mem := mst M5 0 9 (0 : Int32); let M7 : Mem := mst M6 0 11 (1 : Int32); let M8 : Mem := mst M7 0 12 (0 : Int32); let M9 : Mem := mst M8 0 13 (0 : Int32); let M10 : Mem := mst M9 0 14 (1 : Int32); let M11 : Mem := mst M10 0 15 (0 : Int32); let M12 : Mem := mst M11 0 16 (1 : Int32); let M13 : Mem := mst M12 8 7 (1 : Int32); let M14 : Mem := mst M13 8 6 (176 : Int32); let M15 : Mem := mst M14 8 0 (0 : Int32); let M16 : Mem := mst M15 8 1 (19 : Int32); let M17 : Mem := mst M16 8 2 (0 : Int32); let M18 : Mem := mst M17 8 3 (216 : Int32); let M19 : Mem := mst M18 8 4 (1 : Int32); let M20 : Mem := mst M19 8 5 (77 : Int32); let M21 : Mem := mst M20 0 18 (65534 : Int32); let M22 : Mem := mst M21 0 19 (256 : Int32); let M23 : Mem := mst M22 0 21 (0 : Int32); let M24 : Mem := mst M23 0 22 (0 : Int32); let M25 : Mem := mst M24 0 23 (0 : Int32); let M26 : Mem := mst M25 0 24 (0 : Int32); let M27 : Mem := mst M26 0 26 (0 : Int32); let M28 : Mem := mst M27 0 27 (0 : Int32); let M29 : Mem := mst M28 0 28 (0 : Int32); let M30 : Mem := mst M29 0 29 (0 : Int32); let M31 : Mem := mst M30 0 30 (0 : Int32); let M32 : Mem := mst M31 0 31 (1 : Int32); let M33 : Mem := mst M32 0 32 (0 : Int32); let M34 : Mem := mst M33 0 33 (145 : Int32); let M35 : Mem := mst M34 0 34 (0 : Int32); let M36 : Mem := mst M35 0 35 (0 : Int32); let M37 : Mem := mst M36 0 36 (0 : Int32); let M38 : Mem := mst M37 0 37 (0 : Int32); let M39 : Mem := mst M38 0 38 (0 : Int32); let M40 : Mem := mst M39 0 39 (0 : Int32); let M41 : Mem := mst M40 0 40 (252 : Int32); let M42 : Mem := mst M41 0 41 (0 : Int32); let M43 : Mem := mst M42 0 42 (0 : Int32); let M44 : Mem := mst M43 0 43 (0 : Int32); let M45 : Mem := mst M44 0 44 (0 : Int32); let M46 : Mem := mst M45 0 45 (0 : Int32); let M47 : Mem := mst M46 0 46 (0 : Int32); let M48 : Mem := mst M47 0 47 (0 : Int32); let M49 : Mem := mst M48 0 48 (0 : Int32); let M50 : Mem := mst M49 0 49 (0 : Int32); let M51 : Mem := mst M50 0 50 (0 : Int32); M51
def ok_R_reset (M0 : Mem) : Prop := ok_R_zeros3 M0 ∧ (∀ M1 : Mem, M1 = f_R_zeros3_m M0 → ok_R_zeros4 M1 ∧ (∀ M2 : Mem, M2 = f_R_zeros4_m M1 → ok_R_zeros5 M2 ∧ (∀ M3 : Mem, M3 = f_R_zeros5_m M2 → ok_R_zeros6 M3 ∧ (∀ M4 : Mem, M4 = f_R_zeros6_m M3 → ok_R_zeros7 M4))))
set_option maxRecDepth 100000 in
set_option maxHeartbeats 4000000 in
theorem sp_R_reset (M0 : Mem) (Q : Mem → Prop) (hok : ok_R_reset M0) (hQ : Q (f_R_reset_m M0)) : wp_R_reset M0 Q := by
  unfold wp_R_reset
  unfold ok_R_reset at hok
  unfold f_R_reset_m at hQ
  refine sp_R_zeros3 _ _ hok.1 ?_
  have hok := hok.2 _ rfl
  refine sp_R_zeros4 _ _ hok.1 ?_
  have hok := hok.2 _ rfl
  refine sp_R_zeros5 _ _ hok.1 ?_
  have hok := hok.2 _ rfl
  refine sp_R_zeros6 _ _ hok.1 ?_
  have hok := hok.2 _ rfl
  refine sp_R_zeros7 _ _ hok ?_
  intro M6 h_; subst h_
  intro M7 h_; subst h_
  intro M8 h_; subst h_
  intro M9 h_; subst h_
  intro M10 h_; subst h_
  intro M11 h_; subst h_
  intro M12 h_; subst h_
  intro M13 h_; subst h_
  intro M14 h_; subst h_
  intro M15 h_; subst h_
  intro M16 h_; subst h_
  intro M17 h_; subst h_
  intro M18 h_; subst h_
  intro M19 h_; subst h_
  intro M20 h_; subst h_
  intro M21 h_; subst h_
  intro M22 h_; subst h_
  intro M23 h_; subst h_
  intro M24 h_; subst h_
  intro M25 h_; subst h_
  intro M26 h_; subst h_
  intro M27 h_; subst h_
  intro M28 h_; subst h_
  intro M29 h_; subst h_
  intro M30 h_; subst h_
  intro M31 h_; subst h_
  intro M32 h_; subst h_
  intro M33 h_; subst h_
  intro M34 h_; subst h_
  intro M35 h_; subst h_
  intro M36 h_; subst h_
  intro M37 h_; subst h_
  intro M38 h_; subst h_
  intro M39 h_; subst h_
  intro M40 h_; subst h_
  intro M41 h_; subst h_
  intro M42 h_; subst h_
  intro M43 h_; subst h_
  intro M44 h_; subst h_
  intro M45 h_; subst h_
  intro M46 h_; subst h_
  intro M47 h_; subst h_
  intro M48 h_; subst h_
  intro M49 h_; subst h_
  intro M50 h_; subst h_
  intro M51 h_; subst h_
  exact hQ
def f_R_thrown_v (M0 : Mem) : Int32 := (M0 0 0)
set_option maxRecDepth 100000 in
set_option maxHeartbeats 4000000 in
theorem sp_R_thrown (M0 : Mem) (Q : Int32 → Prop) (hQ : Q (f_R_thrown_v M0)) : wp_R_thrown M0 Q := by
  unfold wp_R_thrown
  unfold f_R_thrown_v at hQ
  exact hQ
def f_R_in_j1_v (x2 : Int32) : Int32 := x2
def ok_R_in_j1 (x2 : Int32) : Prop := isB x2
set_option maxRecDepth 100000 in
set_option maxHeartbeats 4000000 in
theorem sp_R_in_j1 (x2 : Int32) (Q : Int32 → Prop) (hok : ok_R_in_j1 x2) (hQ : Q (f_R_in_j1_v x2)) : wp_R_in_j1 x2 Q := by
  unfold wp_R_in_j1
  unfold ok_R_in_j1 at hok
  unfold f_R_in_j1_v at hQ
  refine ⟨hok, ?_⟩
  exact hQ
def f_R_in_j2_v : Int32 := (f_R_in_j1_v (0 : Int32))
def ok_R_in_j2 : Prop := ok_R_in_j1 (0 : Int32)
set_option maxRecDepth 100000 in
set_option maxHeartbeats 4000000 in
theorem sp_R_in_j2 (Q : Int32 → Prop) (hok : ok_R_in_j2 ) (hQ : Q (f_R_in_j2_v )) : wp_R_in_j2  Q := by
  unfold wp_R_in_j2
  unfold ok_R_in_j2 at hok
  unfold f_R_in_j2_v at hQ
  exact sp_R_in_j1 _ _ hok hQ
def f_R_in_v (M0 : Mem) (a1 : Int32) (a2 : Int32) (a3 : Int32) : Int32 := (if a1 < a2 then (f_R_in_j2_v) else (if a3 < a1 then (f_R_in_j2_v) else (f_R_in_j1_v (1 : Int32))))
def ok_R_in (M0 : Mem) (a1 : Int32) (a2 : Int32) (a3 : Int32) : Prop := (((a1 < a2) → ok_R_in_j2) ∧ ((¬ a1 < a2) → (((a3 < a1) → ok_R_in_j2) ∧ ((¬ a3 < a1) → ok_R_in_j1 (1 : Int32)))))
set_option maxRecDepth 100000 in
set_option maxHeartbeats 4000000 in
theorem sp_R_in (M0 : Mem) (a1 : Int32) (a2 : Int32) (a3 : Int32) (Q : Int32 → Prop) (hok : ok_R_in M0 a1 a2 a3) (hQ : Q (f_R_in_v M0 a1 a2 a3)) : wp_R_in M0 a1 a2 a3 Q := by
  unfold wp_R_in
  unfold ok_R_in at hok
  unfold f_R_in_v at hQ
  refine ⟨fun hc => ?_, fun hc => ?_⟩
  · simp only [if_pos hc] at hQ
    have hok := hok.1 hc
    exact sp_R_in_j2 _ hok hQ
  · simp only [if_neg hc] at hQ
    have hok := hok.2 hc
    refine ⟨fun hc => ?_, fun hc => ?_⟩
    · simp only [if_pos hc] at hQ
      have hok := hok.1 hc
      exact sp_R_in_j2 _ hok hQ
    · simp only [if_neg hc] at hQ
      have hok := hok.2 hc
      exact sp_R_in_j1 _ _ hok hQ
def f_R_fails_j2_v (M5 : Mem) (x7 : Int32) : Int32 := x7
def f_R_fails_j2_m (M5 : Mem) (x7 : Int32) : Mem := M5
def ok_R_fails_j2 (M5 : Mem) (x7 : Int32) : Prop := isB x7
set_option maxRecDepth 100000 in
set_option maxHeartbeats 4000000 in
theorem sp_R_fails_j2 (M5 : Mem) (x7 : Int32) (Q : Int32 → Mem → Prop) (hok : ok_R_fails_j2 M5 x7) (hQ : Q (f_R_fails_j2_v M5 x7) (f_R_fails_j2_m M5 x7)) : wp_R_fails_j2 M5 x7 Q := by
  unfold wp_R_fails_j2
  unfold ok_R_fails_j2 at hok
  unfold f_R_fails_j2_v f_R_fails_j2_m at hQ
  refine ⟨hok, ?_⟩
  exact hQ
def f_R_fails_j1_v (M5 : Mem) : Int32 := (if (M5 0 0) = 0 then (f_R_fails_j2_v M5 (0 : Int32)) else (f_R_fails_j2_v M5 (1 : Int32)))
def f_R_fails_j1_m (M5 : Mem) : Mem := (if (M5 0 0) = 0 then (f_R_fails_j2_m M5 (0 : Int32)) else (f_R_fails_j2_m M5 (1 : Int32)))
def ok_R_fails_j1 (M5 : Mem) : Prop := ((((M5 0 0) = 0) → ok_R_fails_j2 M5 (0 : Int32)) ∧ ((¬ (M5 0 0) = 0) → ok_R_fails_j2 M5 (1 : Int32)))
set_option maxRecDepth 100000 in
set_option maxHeartbeats 4000000 in
theorem sp_R_fails_j1 (M5 : Mem) (Q : Int32 → Mem → Prop) (hok : ok_R_fails_j1 M5) (hQ : Q (f_R_fails_j1_v M5) (f_R_fails_j1_m M5)) : wp_R_fails_j1 M5 Q := by
  unfold wp_R_fails_j1
  unfold ok_R_fails_j1 at hok
  unfold f_R_fails_j1_v f_R_fails_j1_m at hQ
  refine ⟨fun hc => ?_, fun hc => ?_⟩
  · simp only [if_pos hc] at hQ
    have hok := hok.1 hc
    exact sp_R_fails_j2 _ _ _ hok hQ
  · simp only [if_neg hc] at hQ
    have hok := hok.2 hc
    exact sp_R_fails_j2 _ _ _ hok hQ
def f_R_fails_v (M0 : Mem) (a1 : Int32) (a2 : Int32) : Int32 := (if a1 = 0 then (f_R_fails_j1_v M0) else (if (M0 0 0) = 0 then let M8 : Mem := mst M0 0 0 a2; (f_R_fails_j1_v M8) else (f_R_fails_j1_v M0)))
def f_R_fails_m (M0 : Mem) (a1 : Int32) (a2 : Int32) : Mem := (if a1 = 0 then (f_R_fails_j1_m M0) else (if (M0 0 0) = 0 then let M8 : Mem := mst M0 0 0 a2; (f_R_fails_j1_m M8) else (f_R_fails_j1_m M0)))
def ok_R_fails (M0 : Mem) (a1 : Int32) (a2 : Int32) : Prop := (((a1 = 0) → ok_R_fails_j1 M0) ∧ ((¬ a1 = 0) → (((¬ (M0 0 0) = 0) → ok_R_fails_j1 M0) ∧ (((M0 0 0) = 0) → ∀ M8 : Mem, M8 = mst M0 0 0 a2 → ok_R_fails_j1 M8))))
set_option maxRecDepth 100000 in
set_option maxHeartbeats 4000000 in
theorem sp_R_fails (M0 : Mem) (a1 : Int32) (a2 : Int32) (Q : Int32 → Mem → Prop) (hok : ok_R_fails M0 a1 a2) (hQ : Q (f_R_fails_v M0 a1 a2) (f_R_fails_m M0 a1 a2)) : wp_R_fails M0 a1 a2 Q := by
  unfold wp_R_fails
  unfold ok_R_fails at hok
  unfold f_R_fails_v f_R_fails_m at hQ
  refine ⟨fun hc => ?_, fun hc => ?_⟩
  · simp only [if_pos hc] at hQ
    have hok := hok.1 hc
    exact sp_R_fails_j1 _ _ hok hQ
  · simp only [if_neg hc] at hQ
    have hok := hok.2 hc
    refine ⟨fun hc => ?_, fun hc => ?_⟩
    · simp only [if_neg hc] at hQ
      have hok := hok.1 hc
      exact sp_R_fails_j1 _ _ hok hQ
    · simp only [if_pos hc] at hQ
      have hok := hok.2 hc
      intro M8 h_; subst h_
      have hok := hok _ rfl
      exact sp_R_fails_j1 _ _ hok hQ
def f_R_bankHigh_j1_v (x2 : Int32) : Int32 := x2
set_option maxRecDepth 100000 in
set_option maxHeartbeats 4000000 in
theorem sp_R_bankHigh_j1 (x2 : Int32) (Q : Int32 → Prop) (hQ : Q (f_R_bankHigh_j1_v x2)) : wp_R_bankHigh_j1 x2 Q := by
  unfold wp_R_bankHigh_j1
  unfold f_R_bankHigh_j1_v at hQ
  exact hQ
def f_R_bankHigh_j2_v : Int32 := (f_R_bankHigh_j1_v (1 : Int32))
set_option maxRecDepth 100000 in
set_option maxHeartbeats 4000000 in
theorem sp_R_bankHigh_j2 (Q : Int32 → Prop) (hQ : Q (f_R_bankHigh_j2_v )) : wp_R_bankHigh_j2  Q := by
  unfold wp_R_bankHigh_j2
  unfold f_R_bankHigh_j2_v at hQ
  exact sp_R_bankHigh_j1 _ _ hQ
def f_R_bankHigh_v (M0 : Mem) : Int32 := (if (M0 0 8) = 0 then (f_R_bankHigh_j2_v) else (if (M0 0 10) = 0 then (f_R_bankHigh_j2_v) else (if (M0 0 10) = (1 : Int32) then (f_R_bankHigh_j1_v ((M0 0 11) - (M0 0 11) / (8 : Int32) * (8 : Int32))) else (if (M0 0 10) = (2 : Int32) then (f_R_bankHigh_j1_v (M0 0 16)) else (f_R_bankHigh_j1_v ((M0 0 14) - (M0 0 14) / (8 : Int32) * (8 : Int32)))))))
set_option maxRecDepth 100000 in
set_option maxHeartbeats 4000000 in
theorem sp_R_bankHigh (M0 : Mem) (Q : Int32 → Prop) (hQ : Q (f_R_bankHigh_v M0)) : wp_R_bankHigh M0 Q := by
  unfold wp_R_bankHigh
  unfold f_R_bankHigh_v at hQ
  refine ⟨fun hc => ?_, fun hc => ?_⟩
  · simp only [if_pos hc] at hQ
    exact sp_R_bankHigh_j2 _ hQ
  · simp only [if_neg hc] at hQ
    refine ⟨fun hc => ?_, fun hc => ?_⟩
    · simp only [if_neg hc] at hQ
      refine ⟨fun hc => ?_, fun hc => ?_⟩
      · simp only [if_neg hc] at hQ
        refine ⟨fun hc => ?_, fun hc => ?_⟩
        · simp only [if_neg hc] at hQ
          exact sp_R_bankHigh_j1 _ _ hQ
        · simp only [if_pos hc] at hQ
          exact sp_R_bankHigh_j1 _ _ hQ
      · simp only [if_pos hc] at hQ
        exact sp_R_bankHigh_j1 _ _ hQ
    · simp only [if_pos hc] at hQ
      exact sp_R_bankHigh_j2 _ hQ
def f_R_bankRam_j1_v (x2 : Int32) : Int32 := x2
set_option maxRecDepth 100000 in
set_option maxHeartbeats 4000000 in
theorem sp_R_bankRam_j1 (x2 : Int32) (Q : Int32 → Prop) (hQ : Q (f_R_bankRam_j1_v x2)) : wp_R_bankRam_j1 x2 Q := by
  unfold wp_R_bankRam_j1
  unfold f_R_bankRam_j1_v at hQ
  exact hQ
def f_R_bankRam_v (M0 : Mem) : Int32 := (if (M0 0 10) = (1 : Int32) then (if (M0 0 13) = (1 : Int32) then (f_R_bankRam_j1_v (M0 0 12)) else (f_R_bankRam_j1_v (0 : Int32))) else (if (M0 0 10) = (3 : Int32) then (f_R_bankRam_j1_v (M0 0 15)) else (f_R_bankRam_j1_v (0 : Int32))))
set_option maxRecDepth 100000 in
set_option maxHeartbeats 4000000 in
theorem sp_R_bankRam (M0 : Mem) (Q : Int32 → Prop) (hQ : Q (f_R_bankRam_v M0)) : wp_R_bankRam M0 Q := by
  unfold wp_R_bankRam
  unfold f_R_bankRam_v at hQ
  refine ⟨fun hc => ?_, fun hc => ?_⟩
  · simp only [if_neg hc] at hQ
    refine ⟨fun hc => ?_, fun hc => ?_⟩
    · simp only [if_neg hc] at hQ
      exact sp_R_bankRam_j1 _ _ hQ
    · simp only [if_pos hc] at hQ
      exact sp_R_bankRam_j1 _ _ hQ
  · simp only [if_pos hc] at hQ
    refine ⟨fun hc => ?_, fun hc => ?_⟩
    · simp only [if_neg hc] at hQ
      exact sp_R_bankRam_j1 _ _ hQ
    · simp only [if_pos hc] at hQ
      exact sp_R_bankRam_j1 _ _ hQ
def f_R_hasRam_j1_v (x2 : Int32) : Int32 := x2
def ok_R_hasRam_j1 (x2 : Int32) : Prop := isB x2
set_option maxRecDepth 100000 in
set_option maxHeartbeats 4000000 in
theorem sp_R_hasRam_j1 (x2 : Int32) (Q : Int32 → Prop) (hok : ok_R_hasRam_j1 x2) (hQ : Q (f_R_hasRam_j1_v x2)) : wp_R_hasRam_j1 x2 Q := by
  unfold wp_R_hasRam_j1
  unfold ok_R_hasRam_j1 at hok
  unfold f_R_hasRam_j1_v at hQ
  refine ⟨hok, ?_⟩
  exact hQ
def f_R_hasRam_j2_v : Int32 := (f_R_hasRam_j1_v (0 : Int32))
def ok_R_hasRam_j2 : Prop := ok_R_hasRam_j1 (0 : Int32)
set_option maxRecDepth 100000 in
set_option maxHeartbeats 4000000 in
theorem sp_R_hasRam_j2 (Q : Int32 → Prop) (hok : ok_R_hasRam_j2 ) (hQ : Q (f_R_hasRam_j2_v )) : wp_R_hasRam_j2  Q := by
  unfold wp_R_hasRam_j2
  unfold ok_R_hasRam_j2 at hok
  unfold f_R_hasRam_j2_v at hQ
  exact sp_R_hasRam_j1 _ _ hok hQ
def f_R_hasRam_j3_v : Int32 := (f_R_hasRam_j1_v (1 : Int32))
def ok_R_hasRam_j3 : Prop := ok_R_hasRam_j1 (1 : Int32)
set_option maxRecDepth 100000 in
set_option maxHeartbeats 4000000 in
theorem sp_R_hasRam_j3 (Q : Int32 → Prop) (hok : ok_R_hasRam_j3 ) (hQ : Q (f_R_hasRam_j3_v )) : wp_R_hasRam_j3  Q := by
  unfold wp_R_hasRam_j3
  unfold ok_R_hasRam_j3 at hok
  unfold f_R_hasRam_j3_v at hQ
  exact sp_R_hasRam_j1 _ _ hok hQ
def f_R_hasRam_v (M0 : Mem) : Int32 := (if (M0 0 8) = 0 then (f_R_hasRam_j2_v) else (if (M0 0 10) = 0 then (f_R_hasRam_j3_v) else (if (M0 0 9) = 0 then (f_R_hasRam_j2_v) else (f_R_hasRam_j3_v))))
def ok_R_hasRam (M0 : Mem) : Prop := ((((M0 0 8) = 0) → ok_R_hasRam_j2) ∧ ((¬ (M0 0 8) = 0) → ((((M0 0 10) = 0) → ok_R_hasRam_j3) ∧ ((¬ (M0 0 10) = 0) → ((((M0 0 9) = 0) → ok_R_hasRam_j2) ∧ ((¬ (M0 0 9) = 0) → ok_R_hasRam_j3))))))
set_option maxRecDepth 100000 in
set_option maxHeartbeats 4000000 in
theorem sp_R_hasRam (M0 : Mem) (Q : Int32 → Prop) (hok : ok_R_hasRam M0) (hQ : Q (f_R_hasRam_v M0)) : wp_R_hasRam M0 Q := by
  unfold wp_R_hasRam
  unfold ok_R_hasRam at hok
  unfold f_R_hasRam_v at hQ
  refine ⟨fun hc => ?_, fun hc => ?_⟩
  · simp only [if_pos hc] at hQ
    have hok := hok.1 hc
    exact sp_R_hasRam_j2 _ hok hQ
  · simp only [if_neg hc] at hQ
    have hok := hok.2 hc
    refine ⟨fun hc => ?_, fun hc => ?_⟩
    · simp only [if_pos hc] at hQ
      have hok := hok.1 hc
      exact sp_R_hasRam_j3 _ hok hQ
    · simp only [if_neg hc] at hQ
      have hok := hok.2 hc
      refine ⟨fun hc => ?_, fun hc => ?_⟩
      · simp only [if_pos hc] at hQ
        have hok := hok.1 hc
        exact sp_R_hasRam_j2 _ hok hQ
      · simp only [if_neg hc] at hQ
        have hok := hok.2 hc
        exact sp_R_hasRam_j3 _ hok hQ
