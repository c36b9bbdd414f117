theorem ez_ite {c : Prop} [Decidable c] {A B : Mem} (ha : A 6 127 = 0) (hb : B 6 127 = 0) : (if c then A else B) 6 127 = 0 := by
  split
  · exact ha
  · exact hb
theorem ez_mst {M : Mem} {c k : Nat} {v : Int32} (h : M 6 127 = 0) (hc : c ≠ 6 ∨ k ≠ 127) : mst M c k v 6 127 = 0 := by
  unfold mst upd; split
  · rename_i e; subst e
    rcases hc with hc | hc
    · exact absurd rfl hc
    · show (if (127 : Nat) = k then v else M 6 127) = 0; rw [if_neg (Ne.symm hc)]; exact h
  · exact h
theorem ez_m0 {M : Mem} {k : Nat} (h : M 6 127 = 0) : mst M 6 k (0 : Int32) 6 127 = 0 := by
  by_cases e : 127 = k
  · subst e; exact mst_eq
  · rw [mst_ne e]; exact h
set_option maxRecDepth 100000 in
set_option maxHeartbeats 4000000 in
theorem ez_R_zeros3_l1 : ∀ (n : Nat) (x1 : Int32) (M2 : Mem), M2 6 127 = 0 → f_R_zeros3_l1_m  n x1 M2 6 127 = 0 := by
  intro n
  induction n with
  | zero => intro x1 M2 h_M2; rfl
  | succ n ih =>
    intro x1 M2 h_M2
    rw [f_R_zeros3_l1_m_s]; dsimp only
    (repeat' (first | with_reducible assumption | with_reducible refine ez_ite ?_ ?_ | with_reducible refine ez_mst ?_ (Or.inl (by decide)) | with_reducible refine ez_mst ?_ (Or.inr (by decide)) | with_reducible refine ez_m0 ?_ | apply ih))
set_option maxRecDepth 100000 in
set_option maxHeartbeats 4000000 in
theorem ez_R_zeros3 (M0 : Mem) (h_M0 : M0 6 127 = 0) : f_R_zeros3_m M0 6 127 = 0 := by
  unfold f_R_zeros3_m; (try dsimp only)
  (repeat' (first | with_reducible assumption | with_reducible refine ez_ite ?_ ?_ | with_reducible refine ez_mst ?_ (Or.inl (by decide)) | with_reducible refine ez_mst ?_ (Or.inr (by decide)) | with_reducible refine ez_m0 ?_ | with_reducible apply ez_R_zeros3_l1))
set_option maxRecDepth 100000 in
set_option maxHeartbeats 4000000 in
theorem ez_R_zeros4_l1 : ∀ (n : Nat) (x1 : Int32) (M2 : Mem), M2 6 127 = 0 → f_R_zeros4_l1_m  n x1 M2 6 127 = 0 := by
  intro n
  induction n with
  | zero => intro x1 M2 h_M2; rfl
  | succ n ih =>
    intro x1 M2 h_M2
    rw [f_R_zeros4_l1_m_s]; dsimp only
    (repeat' (first | with_reducible assumption | with_reducible refine ez_ite ?_ ?_ | with_reducible refine ez_mst ?_ (Or.inl (by decide)) | with_reducible refine ez_mst ?_ (Or.inr (by decide)) | with_reducible refine ez_m0 ?_ | apply ih))
set_option maxRecDepth 100000 in
set_option maxHeartbeats 4000000 in
theorem ez_R_zeros4 (M0 : Mem) (h_M0 : M0 6 127 = 0) : f_R_zeros4_m M0 6 127 = 0 := by
  unfold f_R_zeros4_m; (try dsimp only)
  (repeat' (first | with_reducible assumption | with_reducible refine ez_ite ?_ ?_ | with_reducible refine ez_mst ?_ (Or.inl (by decide)) | with_reducible refine ez_mst ?_ (Or.inr (by decide)) | with_reducible refine ez_m0 ?_ | with_reducible apply ez_R_zeros4_l1))
set_option maxRecDepth 100000 in
set_option maxHeartbeats 4000000 in
theorem ez_R_zeros5_l1 : ∀ (n : Nat) (x1 : Int32) (M2 : Mem), M2 6 127 = 0 → f_R_zeros5_l1_m  n x1 M2 6 127 = 0 := by
  intro n
  induction n with
  | zero => intro x1 M2 h_M2; rfl
  | succ n ih =>
    intro x1 M2 h_M2
    rw [f_R_zeros5_l1_m_s]; dsimp only
    (repeat' (first | with_reducible assumption | with_reducible refine ez_ite ?_ ?_ | with_reducible refine ez_mst ?_ (Or.inl (by decide)) | with_reducible refine ez_mst ?_ (Or.inr (by decide)) | with_reducible refine ez_m0 ?_ | apply ih))
set_option maxRecDepth 100000 in
set_option maxHeartbeats 4000000 in
theorem ez_R_zeros5 (M0 : Mem) (h_M0 : M0 6 127 = 0) : f_R_zeros5_m M0 6 127 = 0 := by
  unfold f_R_zeros5_m; (try dsimp only)
  (repeat' (first | with_reducible assumption | with_reducible refine ez_ite ?_ ?_ | with_reducible refine ez_mst ?_ (Or.inl (by decide)) | with_reducible refine ez_mst ?_ (Or.inr (by decide)) | with_reducible refine ez_m0 ?_ | with_reducible apply ez_R_zeros5_l1))
set_option maxRecDepth 100000 in
set_option maxHeartbeats 4000000 in
theorem ez_R_zeros6_l1 : ∀ (n : Nat) (x1 : Int32) (M2 : Mem), M2 6 127 = 0 → f_R_zeros6_l1_m  n x1 M2 6 127 = 0 := by
  intro n
  induction n with
  | zero => intro x1 M2 h_M2; rfl
  | succ n ih =>
    intro x1 M2 h_M2
    rw [f_R_zeros6_l1_m_s]; dsimp only
    (repeat' (first | with_reducible assumption | with_reducible refine ez_ite ?_ ?_ | with_reducible refine ez_mst ?_ (Or.inl (by decide)) | with_reducible refine ez_mst ?_ (Or.inr (by decide)) | with_reducible refine ez_m0 ?_ | apply ih))
set_option maxRecDepth 100000 in
set_option maxHeartbeats 4000000 in
theorem ez_R_zeros6 (M0 : Mem) (h_M0 : M0 6 127 = 0) : f_R_zeros6_m M0 6 127 = 0 := by
  unfold f_R_zeros6_m; (try dsimp only)
  (repeat' (first | with_reducible assumption | with_reducible refine ez_ite ?_ ?_ | with_reducible refine ez_mst ?_ (Or.inl (by decide)) | with_reducible refine ez_mst ?_ (Or.inr (by decide)) | with_reducible refine ez_m0 ?_ | with_reducible apply ez_R_zeros6_l1))
set_option maxRecDepth 100000 in
set_option maxHeartbeats 4000000 in
theorem ez_R_zeros7_l1 : ∀ (n : Nat) (x1 : Int32) (M2 : Mem), M2 6 127 = 0 → f_R_zeros7_l1_m  n x1 M2 6 127 = 0 := by
  intro n
  induction n with
  | zero => intro x1 M2 h_M2; rfl
  | succ n ih =>
    intro x1 M2 h_M2
    rw [f_R_zeros7_l1_m_s]; dsimp only
    (repeat' (first | with_reducible assumption | with_reducible refine ez_ite ?_ ?_ | with_reducible refine ez_mst ?_ (Or.inl (by decide)) | with_reducible refine ez_mst ?_ (Or.inr (by decide)) | with_reducible refine ez_m0 ?_ | apply ih))
set_option maxRecDepth 100000 in
set_option maxHeartbeats 4000000 in
theorem ez_R_zeros7 (M0 : Mem) (h_M0 : M0 6 127 = 0) : f_R_zeros7_m M0 6 127 = 0 := by
  unfold f_R_zeros7_m; (try dsimp only)
  (repeat' (first | with_reducible assumption | with_reducible refine ez_ite ?_ ?_ | with_reducible refine ez_mst ?_ (Or.inl (by decide)) | with_reducible refine ez_mst ?_ (Or.inr (by decide)) | with_reducible refine ez_m0 ?_ | with_reducible apply ez_R_zeros7_l1))
set_option maxRecDepth 100000 in
set_option maxHeartbeats 4000000 in
theorem ez_R_reset (M0 : Mem) (h_M0 : M0 6 127 = 0) : f_R_reset_m M0 6 127 = 0 := by
  unfold f_R_reset_m; (try dsimp only)
  (repeat' (first | with_reducible assumption | with_reducible refine ez_ite ?_ ?_ | with_reducible refine ez_mst ?_ (Or.inl (by decide)) | with_reducible refine ez_mst ?_ (Or.inr (by decide)) | with_reducible refine ez_m0 ?_ | with_reducible apply ez_R_zeros3 | with_reducible apply ez_R_zeros4 | with_reducible apply ez_R_zeros5 | with_reducible apply ez_R_zeros6 | with_reducible apply ez_R_zeros7))
set_option maxRecDepth 100000 in
set_option maxHeartbeats 4000000 in
theorem ez_R_controls_j1 (M0 : Mem) (h_M0 : M0 6 127 = 0) : f_R_controls_j1_m M0 6 127 = 0 := by
  unfold f_R_controls_j1_m; (try dsimp only)
  (repeat' (first | with_reducible assumption | with_reducible refine ez_ite ?_ ?_ | with_reducible refine ez_mst ?_ (Or.inl (by decide)) | with_reducible refine ez_mst ?_ (Or.inr (by decide)) | with_reducible refine ez_m0 ?_))
set_option maxRecDepth 100000 in
set_option maxHeartbeats 4000000 in
theorem ez_R_controls_j2 (M61 : Mem) (h_M61 : M61 6 127 = 0) : f_R_controls_j2_m M61 6 127 = 0 := by
  unfold f_R_controls_j2_m; (try dsimp only)
  (repeat' (first | with_reducible assumption | with_reducible refine ez_ite ?_ ?_ | with_reducible refine ez_mst ?_ (Or.inl (by decide)) | with_reducible refine ez_mst ?_ (Or.inr (by decide)) | with_reducible refine ez_m0 ?_))
set_option maxRecDepth 100000 in
set_option maxHeartbeats 4000000 in
theorem ez_R_controls_j3 (M0 : Mem) (x69 : Int32) (h_M0 : M0 6 127 = 0) : f_R_controls_j3_m M0 x69 6 127 = 0 := by
  unfold f_R_controls_j3_m; (try dsimp only)
  (repeat' (first | with_reducible assumption | with_reducible refine ez_ite ?_ ?_ | with_reducible refine ez_mst ?_ (Or.inl (by decide)) | with_reducible refine ez_mst ?_ (Or.inr (by decide)) | with_reducible refine ez_m0 ?_ | with_reducible apply ez_R_controls_j2))
set_option maxRecDepth 100000 in
set_option maxHeartbeats 4000000 in
theorem ez_R_controls_j4 (M0 : Mem) (x73 : Int32) (h_M0 : M0 6 127 = 0) : f_R_controls_j4_m M0 x73 6 127 = 0 := by
  unfold f_R_controls_j4_m; (try dsimp only)
  (repeat' (first | with_reducible assumption | with_reducible refine ez_ite ?_ ?_ | with_reducible refine ez_mst ?_ (Or.inl (by decide)) | with_reducible refine ez_mst ?_ (Or.inr (by decide)) | with_reducible refine ez_m0 ?_ | with_reducible apply ez_R_controls_j2))
set_option maxRecDepth 100000 in
set_option maxHeartbeats 4000000 in
theorem ez_R_controls_j5 (M84 : Mem) (h_M84 : M84 6 127 = 0) : f_R_controls_j5_m M84 6 127 = 0 := by
  unfold f_R_controls_j5_m; (try dsimp only)
  (repeat' (first | with_reducible assumption | with_reducible refine ez_ite ?_ ?_ | with_reducible refine ez_mst ?_ (Or.inl (by decide)) | with_reducible refine ez_mst ?_ (Or.inr (by decide)) | with_reducible refine ez_m0 ?_))
set_option maxRecDepth 100000 in
set_option maxHeartbeats 4000000 in
theorem ez_R_controls_j6 (M0 : Mem) (x87 : Int32) (h_M0 : M0 6 127 = 0) : f_R_controls_j6_m M0 x87 6 127 = 0 := by
  unfold f_R_controls_j6_m; (try dsimp only)
  (repeat' (first | with_reducible assumption | with_reducible refine ez_ite ?_ ?_ | with_reducible refine ez_mst ?_ (Or.inl (by decide)) | with_reducible refine ez_mst ?_ (Or.inr (by decide)) | with_reducible refine ez_m0 ?_ | with_reducible apply ez_R_controls_j5))
set_option maxRecDepth 100000 in
set_option maxHeartbeats 4000000 in
theorem ez_R_controls_j7 (M0 : Mem) (x91 : Int32) (h_M0 : M0 6 127 = 0) : f_R_controls_j7_m M0 x91 6 127 = 0 := by
  unfold f_R_controls_j7_m; (try dsimp only)
  (repeat' (first | with_reducible assumption | with_reducible refine ez_ite ?_ ?_ | with_reducible refine ez_mst ?_ (Or.inl (by decide)) | with_reducible refine ez_mst ?_ (Or.inr (by decide)) | with_reducible refine ez_m0 ?_ | with_reducible apply ez_R_controls_j5))
set_option maxRecDepth 100000 in
set_option maxHeartbeats 4000000 in
theorem ez_R_controls (M0 : Mem) (a1 : Int32) (a2 : Int32) (h_M0 : M0 6 127 = 0) : f_R_controls_m M0 a1 a2 6 127 = 0 := by
  unfold f_R_controls_m; (try dsimp only)
  (repeat' (first | with_reducible assumption | with_reducible refine ez_ite ?_ ?_ | with_reducible refine ez_mst ?_ (Or.inl (by decide)) | with_reducible refine ez_mst ?_ (Or.inr (by decide)) | with_reducible refine ez_m0 ?_ | with_reducible apply ez_R_controls_j1 | with_reducible apply ez_R_controls_j2 | with_reducible apply ez_R_controls_j3 | with_reducible apply ez_R_controls_j4 | with_reducible apply ez_R_controls_j6 | with_reducible apply ez_R_controls_j7))
set_option maxRecDepth 100000 in
set_option maxHeartbeats 4000000 in
theorem ez_R_setPort_j1 (M27 : Mem) (h_M27 : M27 6 127 = 0) : f_R_setPort_j1_m M27 6 127 = 0 := by
  unfold f_R_setPort_j1_m; (try dsimp only)
  (repeat' (first | with_reducible assumption | with_reducible refine ez_ite ?_ ?_ | with_reducible refine ez_mst ?_ (Or.inl (by decide)) | with_reducible refine ez_mst ?_ (Or.inr (by decide)) | with_reducible refine ez_m0 ?_))
set_option maxRecDepth 100000 in
set_option maxHeartbeats 4000000 in
theorem ez_R_setPort_l1 (a2 : Int32) : ∀ (n : Nat) (x42 : Int32) (M43 : Mem), M43 6 127 = 0 → f_R_setPort_l1_m a2 n x42 M43 6 127 = 0 := by
  intro n
  induction n with
  | zero => intro x42 M43 h_M43; rfl
  | succ n ih =>
    intro x42 M43 h_M43
    rw [f_R_setPort_l1_m_s]; dsimp only
    (repeat' (first | with_reducible assumption | with_reducible refine ez_ite ?_ ?_ | with_reducible refine ez_mst ?_ (Or.inl (by decide)) | with_reducible refine ez_mst ?_ (Or.inr (by decide)) | with_reducible refine ez_m0 ?_ | with_reducible apply ez_R_setPort_j1 | apply ih))
set_option maxRecDepth 100000 in
set_option maxHeartbeats 4000000 in
theorem ez_R_setPort (M0 : Mem) (a1 : Int32) (a2 : Int32) (h_M0 : M0 6 127 = 0) : f_R_setPort_m M0 a1 a2 6 127 = 0 := by
  unfold f_R_setPort_m; (try dsimp only)
  (repeat' (first | with_reducible assumption | with_reducible refine ez_ite ?_ ?_ | with_reducible refine ez_mst ?_ (Or.inl (by decide)) | with_reducible refine ez_mst ?_ (Or.inr (by decide)) | with_reducible refine ez_m0 ?_ | with_reducible apply ez_R_setPort_j1 | with_reducible apply ez_R_setPort_l1))
set_option maxRecDepth 100000 in
set_option maxHeartbeats 4000000 in
theorem ez_R_put_j1 (M16 : Mem) (h_M16 : M16 6 127 = 0) : f_R_put_j1_m M16 6 127 = 0 := by
  unfold f_R_put_j1_m; (try dsimp only)
  (repeat' (first | with_reducible assumption | with_reducible refine ez_ite ?_ ?_ | with_reducible refine ez_mst ?_ (Or.inl (by decide)) | with_reducible refine ez_mst ?_ (Or.inr (by decide)) | with_reducible refine ez_m0 ?_))
set_option maxRecDepth 100000 in
set_option maxHeartbeats 4000000 in
theorem ez_R_put_j2 (M0 : Mem) (a1 : Int32) (a2 : Int32) (h_M0 : M0 6 127 = 0) : f_R_put_j2_m M0 a1 a2 6 127 = 0 := by
  unfold f_R_put_j2_m; (try dsimp only)
  (repeat' (first | with_reducible assumption | with_reducible refine ez_ite ?_ ?_ | with_reducible refine ez_mst ?_ (Or.inl (by decide)) | with_reducible refine ez_mst ?_ (Or.inr (by decide)) | with_reducible refine ez_m0 ?_ | with_reducible apply ez_R_put_j1 | with_reducible apply ez_R_setPort))
set_option maxRecDepth 100000 in
set_option maxHeartbeats 4000000 in
theorem ez_R_put_j3 (M0 : Mem) (a1 : Int32) (x24 : Int32) (x27 : Int32) (h_M0 : M0 6 127 = 0) : f_R_put_j3_m M0 a1 x24 x27 6 127 = 0 := by
  unfold f_R_put_j3_m; (try dsimp only)
  (repeat' (first | with_reducible assumption | with_reducible refine ez_ite ?_ ?_ | with_reducible refine ez_mst ?_ (Or.inl (by decide)) | with_reducible refine ez_mst ?_ (Or.inr (by decide)) | with_reducible refine ez_m0 ?_ | with_reducible apply ez_R_put_j1))
set_option maxRecDepth 100000 in
set_option maxHeartbeats 4000000 in
theorem ez_R_put (M0 : Mem) (a1 : Int32) (a2 : Int32) (h_M0 : M0 6 127 = 0) : f_R_put_m M0 a1 a2 6 127 = 0 := by
  have top : ¬ a1 < (65408 : Int32) → ¬ (65535 : Int32) ≤ a1 → mst M0 6 ((a1 - (65408 : Int32))).toNatClampNeg a2 6 127 = 0 := by
    intro h1 h2
    have e1 : (65408 : Int32).toInt = 65408 := by decide
    have e2 : (65535 : Int32).toInt = 65535 := by decide
    rw [ti_lt] at h1; rw [ti_le] at h2
    have h3 : (a1 - (65408 : Int32)).toInt = a1.toInt - 65408 := by rw [ti_sub (by omega) (by omega)]; omega
    have h4 := ti_clamp (x := a1 - (65408 : Int32)) (by omega)
    rw [mst_ne (by omega)]; exact h_M0
  have j1 : ∀ X : Mem, X 6 127 = 0 → f_R_put_j1_m X 6 127 = 0 := fun X h => h
  unfold f_R_put_m f_R_put_j3_m; (try dsimp only)
  repeat' split
  all_goals first
    | with_reducible exact ez_R_put_j2 _ _ _ h_M0
    | with_reducible exact j1 _ (top ‹_› ‹_›)
    | with_reducible exact j1 _ (ez_R_controls _ _ _ h_M0)
    | with_reducible exact j1 _ h_M0
    | with_reducible exact j1 _ (ez_mst h_M0 (Or.inl (by decide)))
set_option maxRecDepth 100000 in
set_option maxHeartbeats 4000000 in
theorem ez_R_reads (M0 : Mem) (a1 : Int32) (h_M0 : M0 6 127 = 0) : f_R_reads_m M0 a1 6 127 = 0 := by
  unfold f_R_reads_m; (try dsimp only)
  (repeat' (first | with_reducible assumption | with_reducible refine ez_ite ?_ ?_ | with_reducible refine ez_mst ?_ (Or.inl (by decide)) | with_reducible refine ez_mst ?_ (Or.inr (by decide)) | with_reducible refine ez_m0 ?_))
set_option maxRecDepth 100000 in
set_option maxHeartbeats 4000000 in
theorem ez_R_writes (M0 : Mem) (a1 : Int32) (a2 : Int32) (h_M0 : M0 6 127 = 0) : f_R_writes_m M0 a1 a2 6 127 = 0 := by
  unfold f_R_writes_m; (try dsimp only)
  (repeat' (first | with_reducible assumption | with_reducible refine ez_ite ?_ ?_ | with_reducible refine ez_mst ?_ (Or.inl (by decide)) | with_reducible refine ez_mst ?_ (Or.inr (by decide)) | with_reducible refine ez_m0 ?_ | with_reducible apply ez_R_put))
set_option maxRecDepth 100000 in
set_option maxHeartbeats 4000000 in
theorem ez_R_next (M0 : Mem) (h_M0 : M0 6 127 = 0) : f_R_next_m M0 6 127 = 0 := by
  unfold f_R_next_m; (try dsimp only)
  (repeat' (first | with_reducible assumption | with_reducible refine ez_ite ?_ ?_ | with_reducible refine ez_mst ?_ (Or.inl (by decide)) | with_reducible refine ez_mst ?_ (Or.inr (by decide)) | with_reducible refine ez_m0 ?_ | with_reducible apply ez_R_reads))
set_option maxRecDepth 100000 in
set_option maxHeartbeats 4000000 in
theorem ez_R_nextWord (M0 : Mem) (h_M0 : M0 6 127 = 0) : f_R_nextWord_m M0 6 127 = 0 := by
  unfold f_R_nextWord_m; (try dsimp only)
  (repeat' (first | with_reducible assumption | with_reducible refine ez_ite ?_ ?_ | with_reducible refine ez_mst ?_ (Or.inl (by decide)) | with_reducible refine ez_mst ?_ (Or.inr (by decide)) | with_reducible refine ez_m0 ?_ | with_reducible apply ez_R_next))
set_option maxRecDepth 100000 in
set_option maxHeartbeats 4000000 in
theorem ez_R_setPair_j1 (M5 : Mem) (h_M5 : M5 6 127 = 0) : f_R_setPair_j1_m M5 6 127 = 0 := by
  unfold f_R_setPair_j1_m; (try dsimp only)
  (repeat' (first | with_reducible assumption | with_reducible refine ez_ite ?_ ?_ | with_reducible refine ez_mst ?_ (Or.inl (by decide)) | with_reducible refine ez_mst ?_ (Or.inr (by decide)) | with_reducible refine ez_m0 ?_))
set_option maxRecDepth 100000 in
set_option maxHeartbeats 4000000 in
theorem ez_R_setPair (M0 : Mem) (a1 : Int32) (a2 : Int32) (h_M0 : M0 6 127 = 0) : f_R_setPair_m M0 a1 a2 6 127 = 0 := by
  unfold f_R_setPair_m; (try dsimp only)
  (repeat' (first | with_reducible assumption | with_reducible refine ez_ite ?_ ?_ | with_reducible refine ez_mst ?_ (Or.inl (by decide)) | with_reducible refine ez_mst ?_ (Or.inr (by decide)) | with_reducible refine ez_m0 ?_ | with_reducible apply ez_R_setPair_j1))
set_option maxRecDepth 100000 in
set_option maxHeartbeats 4000000 in
theorem ez_R_operand_j1 (x6 : Int32) (M7 : Mem) (h_M7 : M7 6 127 = 0) : f_R_operand_j1_m x6 M7 6 127 = 0 := by
  unfold f_R_operand_j1_m; (try dsimp only)
  (repeat' (first | with_reducible assumption | with_reducible refine ez_ite ?_ ?_ | with_reducible refine ez_mst ?_ (Or.inl (by decide)) | with_reducible refine ez_mst ?_ (Or.inr (by decide)) | with_reducible refine ez_m0 ?_))
set_option maxRecDepth 100000 in
set_option maxHeartbeats 4000000 in
theorem ez_R_operand (M0 : Mem) (a1 : Int32) (h_M0 : M0 6 127 = 0) : f_R_operand_m M0 a1 6 127 = 0 := by
  unfold f_R_operand_m; (try dsimp only)
  (repeat' (first | with_reducible assumption | with_reducible refine ez_ite ?_ ?_ | with_reducible refine ez_mst ?_ (Or.inl (by decide)) | with_reducible refine ez_mst ?_ (Or.inr (by decide)) | with_reducible refine ez_m0 ?_ | with_reducible apply ez_R_operand_j1 | with_reducible apply ez_R_reads))
set_option maxRecDepth 100000 in
set_option maxHeartbeats 4000000 in
theorem ez_R_setOperand_j1 (M5 : Mem) (h_M5 : M5 6 127 = 0) : f_R_setOperand_j1_m M5 6 127 = 0 := by
  unfold f_R_setOperand_j1_m; (try dsimp only)
  (repeat' (first | with_reducible assumption | with_reducible refine ez_ite ?_ ?_ | with_reducible refine ez_mst ?_ (Or.inl (by decide)) | with_reducible refine ez_mst ?_ (Or.inr (by decide)) | with_reducible refine ez_m0 ?_))
set_option maxRecDepth 100000 in
set_option maxHeartbeats 4000000 in
theorem ez_R_setOperand (M0 : Mem) (a1 : Int32) (a2 : Int32) (h_M0 : M0 6 127 = 0) : f_R_setOperand_m M0 a1 a2 6 127 = 0 := by
  unfold f_R_setOperand_m; (try dsimp only)
  (repeat' (first | with_reducible assumption | with_reducible refine ez_ite ?_ ?_ | with_reducible refine ez_mst ?_ (Or.inl (by decide)) | with_reducible refine ez_mst ?_ (Or.inr (by decide)) | with_reducible refine ez_m0 ?_ | with_reducible apply ez_R_setOperand_j1 | with_reducible apply ez_R_writes))
set_option maxRecDepth 100000 in
set_option maxHeartbeats 4000000 in
theorem ez_R_push (M0 : Mem) (a1 : Int32) (h_M0 : M0 6 127 = 0) : f_R_push_m M0 a1 6 127 = 0 := by
  unfold f_R_push_m; (try dsimp only)
  (repeat' (first | with_reducible assumption | with_reducible refine ez_ite ?_ ?_ | with_reducible refine ez_mst ?_ (Or.inl (by decide)) | with_reducible refine ez_mst ?_ (Or.inr (by decide)) | with_reducible refine ez_m0 ?_ | with_reducible apply ez_R_writes))
set_option maxRecDepth 100000 in
set_option maxHeartbeats 4000000 in
theorem ez_R_pop (M0 : Mem) (h_M0 : M0 6 127 = 0) : f_R_pop_m M0 6 127 = 0 := by
  unfold f_R_pop_m; (try dsimp only)
  (repeat' (first | with_reducible assumption | with_reducible refine ez_ite ?_ ?_ | with_reducible refine ez_mst ?_ (Or.inl (by decide)) | with_reducible refine ez_mst ?_ (Or.inr (by decide)) | with_reducible refine ez_m0 ?_ | with_reducible apply ez_R_reads))
set_option maxRecDepth 100000 in
set_option maxHeartbeats 4000000 in
theorem ez_R_flag_j1 (M0 : Mem) (x3 : Int32) (h_M0 : M0 6 127 = 0) : f_R_flag_j1_m M0 x3 6 127 = 0 := by
  unfold f_R_flag_j1_m; (try dsimp only)
  (repeat' (first | with_reducible assumption | with_reducible refine ez_ite ?_ ?_ | with_reducible refine ez_mst ?_ (Or.inl (by decide)) | with_reducible refine ez_mst ?_ (Or.inr (by decide)) | with_reducible refine ez_m0 ?_))
set_option maxRecDepth 100000 in
set_option maxHeartbeats 4000000 in
theorem ez_R_flag (M0 : Mem) (a1 : Int32) (a2 : Int32) (h_M0 : M0 6 127 = 0) : f_R_flag_m M0 a1 a2 6 127 = 0 := by
  unfold f_R_flag_m; (try dsimp only)
  (repeat' (first | with_reducible assumption | with_reducible refine ez_ite ?_ ?_ | with_reducible refine ez_mst ?_ (Or.inl (by decide)) | with_reducible refine ez_mst ?_ (Or.inr (by decide)) | with_reducible refine ez_m0 ?_ | with_reducible apply ez_R_flag_j1))
set_option maxRecDepth 100000 in
set_option maxHeartbeats 4000000 in
theorem ez_R_flagged_j4 (M0 : Mem) (x24 : Int32) (x36 : Int32) (x42 : Int32) (x45 : Int32) (h_M0 : M0 6 127 = 0) : f_R_flagged_j4_m M0 x24 x36 x42 x45 6 127 = 0 := by
  unfold f_R_flagged_j4_m; (try dsimp only)
  (repeat' (first | with_reducible assumption | with_reducible refine ez_ite ?_ ?_ | with_reducible refine ez_mst ?_ (Or.inl (by decide)) | with_reducible refine ez_mst ?_ (Or.inr (by decide)) | with_reducible refine ez_m0 ?_))
set_option maxRecDepth 100000 in
set_option maxHeartbeats 4000000 in
theorem ez_R_flagged_j3 (M0 : Mem) (a4 : Int32) (x24 : Int32) (x36 : Int32) (x42 : Int32) (h_M0 : M0 6 127 = 0) : f_R_flagged_j3_m M0 a4 x24 x36 x42 6 127 = 0 := by
  unfold f_R_flagged_j3_m; (try dsimp only)
  (repeat' (first | with_reducible assumption | with_reducible refine ez_ite ?_ ?_ | with_reducible refine ez_mst ?_ (Or.inl (by decide)) | with_reducible refine ez_mst ?_ (Or.inr (by decide)) | with_reducible refine ez_m0 ?_ | with_reducible apply ez_R_flagged_j4))
set_option maxRecDepth 100000 in
set_option maxHeartbeats 4000000 in
theorem ez_R_flagged_j2 (M0 : Mem) (a3 : Int32) (a4 : Int32) (x24 : Int32) (x36 : Int32) (h_M0 : M0 6 127 = 0) : f_R_flagged_j2_m M0 a3 a4 x24 x36 6 127 = 0 := by
  unfold f_R_flagged_j2_m; (try dsimp only)
  (repeat' (first | with_reducible assumption | with_reducible refine ez_ite ?_ ?_ | with_reducible refine ez_mst ?_ (Or.inl (by decide)) | with_reducible refine ez_mst ?_ (Or.inr (by decide)) | with_reducible refine ez_m0 ?_ | with_reducible apply ez_R_flagged_j3))
set_option maxRecDepth 100000 in
set_option maxHeartbeats 4000000 in
theorem ez_R_flagged_j1 (M0 : Mem) (a2 : Int32) (a3 : Int32) (a4 : Int32) (x24 : Int32) (h_M0 : M0 6 127 = 0) : f_R_flagged_j1_m M0 a2 a3 a4 x24 6 127 = 0 := by
  unfold f_R_flagged_j1_m; (try dsimp only)
  (repeat' (first | with_reducible assumption | with_reducible refine ez_ite ?_ ?_ | with_reducible refine ez_mst ?_ (Or.inl (by decide)) | with_reducible refine ez_mst ?_ (Or.inr (by decide)) | with_reducible refine ez_m0 ?_ | with_reducible apply ez_R_flagged_j2))
set_option maxRecDepth 100000 in
set_option maxHeartbeats 4000000 in
theorem ez_R_flagged (M0 : Mem) (a1 : Int32) (a2 : Int32) (a3 : Int32) (a4 : Int32) (h_M0 : M0 6 127 = 0) : f_R_flagged_m M0 a1 a2 a3 a4 6 127 = 0 := by
  unfold f_R_flagged_m; (try dsimp only)
  (repeat' (first | with_reducible assumption | with_reducible refine ez_ite ?_ ?_ | with_reducible refine ez_mst ?_ (Or.inl (by decide)) | with_reducible refine ez_mst ?_ (Or.inr (by decide)) | with_reducible refine ez_m0 ?_ | with_reducible apply ez_R_flagged_j1))
set_option maxRecDepth 100000 in
set_option maxHeartbeats 4000000 in
theorem ez_R_reckons_j2 (M518 : Mem) (h_M518 : M518 6 127 = 0) : f_R_reckons_j2_m M518 6 127 = 0 := by
  unfold f_R_reckons_j2_m; (try dsimp only)
  (repeat' (first | with_reducible assumption | with_reducible refine ez_ite ?_ ?_ | with_reducible refine ez_mst ?_ (Or.inl (by decide)) | with_reducible refine ez_mst ?_ (Or.inr (by decide)) | with_reducible refine ez_m0 ?_))
set_option maxRecDepth 100000 in
set_option maxHeartbeats 4000000 in
theorem ez_R_reckons_j7 (M617 : Mem) (x629 : Int32) (x635 : Int32) (x638 : Int32) (h_M617 : M617 6 127 = 0) : f_R_reckons_j7_m M617 x629 x635 x638 6 127 = 0 := by
  unfold f_R_reckons_j7_m; (try dsimp only)
  (repeat' (first | with_reducible assumption | with_reducible refine ez_ite ?_ ?_ | with_reducible refine ez_mst ?_ (Or.inl (by decide)) | with_reducible refine ez_mst ?_ (Or.inr (by decide)) | with_reducible refine ez_m0 ?_ | with_reducible apply ez_R_flagged | with_reducible apply ez_R_reckons_j2))
set_option maxRecDepth 100000 in
set_option maxHeartbeats 4000000 in
theorem ez_R_reckons_j6 (x592 : Int32) (M617 : Mem) (x629 : Int32) (x635 : Int32) (h_M617 : M617 6 127 = 0) : f_R_reckons_j6_m x592 M617 x629 x635 6 127 = 0 := by
  unfold f_R_reckons_j6_m; (try dsimp only)
  (repeat' (first | with_reducible assumption | with_reducible refine ez_ite ?_ ?_ | with_reducible refine ez_mst ?_ (Or.inl (by decide)) | with_reducible refine ez_mst ?_ (Or.inr (by decide)) | with_reducible refine ez_m0 ?_ | with_reducible apply ez_R_reckons_j7))
set_option maxRecDepth 100000 in
set_option maxHeartbeats 4000000 in
theorem ez_R_reckons_j5 (a2 : Int32) (x1 : Int32) (x346 : Int32) (x592 : Int32) (M617 : Mem) (x629 : Int32) (h_M617 : M617 6 127 = 0) : f_R_reckons_j5_m a2 x1 x346 x592 M617 x629 6 127 = 0 := by
  unfold f_R_reckons_j5_m; (try dsimp only)
  (repeat' (first | with_reducible assumption | with_reducible refine ez_ite ?_ ?_ | with_reducible refine ez_mst ?_ (Or.inl (by decide)) | with_reducible refine ez_mst ?_ (Or.inr (by decide)) | with_reducible refine ez_m0 ?_ | with_reducible apply ez_R_reckons_j6))
set_option maxRecDepth 100000 in
set_option maxHeartbeats 4000000 in
theorem ez_R_reckons_j4 (a2 : Int32) (x1 : Int32) (x346 : Int32) (x592 : Int32) (M617 : Mem) (h_M617 : M617 6 127 = 0) : f_R_reckons_j4_m a2 x1 x346 x592 M617 6 127 = 0 := by
  unfold f_R_reckons_j4_m; (try dsimp only)
  (repeat' (first | with_reducible assumption | with_reducible refine ez_ite ?_ ?_ | with_reducible refine ez_mst ?_ (Or.inl (by decide)) | with_reducible refine ez_mst ?_ (Or.inr (by decide)) | with_reducible refine ez_m0 ?_ | with_reducible apply ez_R_reckons_j5))
set_option maxRecDepth 100000 in
set_option maxHeartbeats 4000000 in
theorem ez_R_reckons_j3 (M0 : Mem) (a1 : Int32) (a2 : Int32) (x1 : Int32) (x346 : Int32) (h_M0 : M0 6 127 = 0) : f_R_reckons_j3_m M0 a1 a2 x1 x346 6 127 = 0 := by
  unfold f_R_reckons_j3_m; (try dsimp only)
  (repeat' (first | with_reducible assumption | with_reducible refine ez_ite ?_ ?_ | with_reducible refine ez_mst ?_ (Or.inl (by decide)) | with_reducible refine ez_mst ?_ (Or.inr (by decide)) | with_reducible refine ez_m0 ?_ | with_reducible apply ez_R_reckons_j4))
set_option maxRecDepth 100000 in
set_option maxHeartbeats 4000000 in
theorem ez_R_reckons_j10 (M654 : Mem) (x660 : Int32) (x663 : Int32) (h_M654 : M654 6 127 = 0) : f_R_reckons_j10_m M654 x660 x663 6 127 = 0 := by
  unfold f_R_reckons_j10_m; (try dsimp only)
  (repeat' (first | with_reducible assumption | with_reducible refine ez_ite ?_ ?_ | with_reducible refine ez_mst ?_ (Or.inl (by decide)) | with_reducible refine ez_mst ?_ (Or.inr (by decide)) | with_reducible refine ez_m0 ?_ | with_reducible apply ez_R_flagged | with_reducible apply ez_R_reckons_j2))
set_option maxRecDepth 100000 in
set_option maxHeartbeats 4000000 in
theorem ez_R_reckons_j9 (a1 : Int32) (M654 : Mem) (x660 : Int32) (h_M654 : M654 6 127 = 0) : f_R_reckons_j9_m a1 M654 x660 6 127 = 0 := by
  unfold f_R_reckons_j9_m; (try dsimp only)
  (repeat' (first | with_reducible assumption | with_reducible refine ez_ite ?_ ?_ | with_reducible refine ez_mst ?_ (Or.inl (by decide)) | with_reducible refine ez_mst ?_ (Or.inr (by decide)) | with_reducible refine ez_m0 ?_ | with_reducible apply ez_R_reckons_j10))
set_option maxRecDepth 100000 in
set_option maxHeartbeats 4000000 in
theorem ez_R_reckons_j8 (M0 : Mem) (a1 : Int32) (x653 : Int32) (h_M0 : M0 6 127 = 0) : f_R_reckons_j8_m M0 a1 x653 6 127 = 0 := by
  unfold f_R_reckons_j8_m; (try dsimp only)
  (repeat' (first | with_reducible assumption | with_reducible refine ez_ite ?_ ?_ | with_reducible refine ez_mst ?_ (Or.inl (by decide)) | with_reducible refine ez_mst ?_ (Or.inr (by decide)) | with_reducible refine ez_m0 ?_ | with_reducible apply ez_R_reckons_j9))
set_option maxRecDepth 100000 in
set_option maxHeartbeats 4000000 in
theorem ez_R_reckons_j13 (M666 : Mem) (x678 : Int32) (x684 : Int32) (x687 : Int32) (h_M666 : M666 6 127 = 0) : f_R_reckons_j13_m M666 x678 x684 x687 6 127 = 0 := by
  unfold f_R_reckons_j13_m; (try dsimp only)
  (repeat' (first | with_reducible assumption | with_reducible refine ez_ite ?_ ?_ | with_reducible refine ez_mst ?_ (Or.inl (by decide)) | with_reducible refine ez_mst ?_ (Or.inr (by decide)) | with_reducible refine ez_m0 ?_ | with_reducible apply ez_R_flagged | with_reducible apply ez_R_reckons_j2))
set_option maxRecDepth 100000 in
set_option maxHeartbeats 4000000 in
theorem ez_R_reckons_j12 (x665 : Int32) (M666 : Mem) (x678 : Int32) (x684 : Int32) (h_M666 : M666 6 127 = 0) : f_R_reckons_j12_m x665 M666 x678 x684 6 127 = 0 := by
  unfold f_R_reckons_j12_m; (try dsimp only)
  (repeat' (first | with_reducible assumption | with_reducible refine ez_ite ?_ ?_ | with_reducible refine ez_mst ?_ (Or.inl (by decide)) | with_reducible refine ez_mst ?_ (Or.inr (by decide)) | with_reducible refine ez_m0 ?_ | with_reducible apply ez_R_reckons_j13))
set_option maxRecDepth 100000 in
set_option maxHeartbeats 4000000 in
theorem ez_R_reckons_j11 (a2 : Int32) (x1 : Int32) (x346 : Int32) (x665 : Int32) (M666 : Mem) (x678 : Int32) (h_M666 : M666 6 127 = 0) : f_R_reckons_j11_m a2 x1 x346 x665 M666 x678 6 127 = 0 := by
  unfold f_R_reckons_j11_m; (try dsimp only)
  (repeat' (first | with_reducible assumption | with_reducible refine ez_ite ?_ ?_ | with_reducible refine ez_mst ?_ (Or.inl (by decide)) | with_reducible refine ez_mst ?_ (Or.inr (by decide)) | with_reducible refine ez_m0 ?_ | with_reducible apply ez_R_reckons_j12))
set_option maxRecDepth 100000 in
set_option maxHeartbeats 4000000 in
theorem ez_R_reckons_j1 (M0 : Mem) (a1 : Int32) (a2 : Int32) (x1 : Int32) (x346 : Int32) (h_M0 : M0 6 127 = 0) : f_R_reckons_j1_m M0 a1 a2 x1 x346 6 127 = 0 := by
  unfold f_R_reckons_j1_m; (try dsimp only)
  (repeat' (first | with_reducible assumption | with_reducible refine ez_ite ?_ ?_ | with_reducible refine ez_mst ?_ (Or.inl (by decide)) | with_reducible refine ez_mst ?_ (Or.inr (by decide)) | with_reducible refine ez_m0 ?_ | with_reducible apply ez_R_reckons_j11 | with_reducible apply ez_R_reckons_j3 | with_reducible apply ez_R_reckons_j8))
set_option maxRecDepth 100000 in
set_option maxHeartbeats 4000000 in
theorem ez_R_reckons_j14 (M0 : Mem) (a1 : Int32) (a2 : Int32) (x1 : Int32) (h_M0 : M0 6 127 = 0) : f_R_reckons_j14_m M0 a1 a2 x1 6 127 = 0 := by
  unfold f_R_reckons_j14_m; (try dsimp only)
  (repeat' (first | with_reducible assumption | with_reducible refine ez_ite ?_ ?_ | with_reducible refine ez_mst ?_ (Or.inl (by decide)) | with_reducible refine ez_mst ?_ (Or.inr (by decide)) | with_reducible refine ez_m0 ?_ | with_reducible apply ez_R_reckons_j1))
set_option maxRecDepth 100000 in
set_option maxHeartbeats 4000000 in
theorem ez_R_reckons_j15 (M0 : Mem) (a1 : Int32) (a2 : Int32) (x1 : Int32) (h_M0 : M0 6 127 = 0) : f_R_reckons_j15_m M0 a1 a2 x1 6 127 = 0 := by
  unfold f_R_reckons_j15_m; (try dsimp only)
  (repeat' (first | with_reducible assumption | with_reducible refine ez_ite ?_ ?_ | with_reducible refine ez_mst ?_ (Or.inl (by decide)) | with_reducible refine ez_mst ?_ (Or.inr (by decide)) | with_reducible refine ez_m0 ?_ | with_reducible apply ez_R_reckons_j1))
set_option maxRecDepth 100000 in
set_option maxHeartbeats 4000000 in
theorem ez_R_reckons (M0 : Mem) (a1 : Int32) (a2 : Int32) (h_M0 : M0 6 127 = 0) : f_R_reckons_m M0 a1 a2 6 127 = 0 := by
  unfold f_R_reckons_m; (try dsimp only)
  (repeat' (first | with_reducible assumption | with_reducible refine ez_ite ?_ ?_ | with_reducible refine ez_mst ?_ (Or.inl (by decide)) | with_reducible refine ez_mst ?_ (Or.inr (by decide)) | with_reducible refine ez_m0 ?_ | with_reducible apply ez_R_reckons_j14 | with_reducible apply ez_R_reckons_j15))
set_option maxRecDepth 100000 in
set_option maxHeartbeats 4000000 in
theorem ez_R_turned_j4 (M0 : Mem) (x90 : Int32) (x96 : Int32) (x99 : Int32) (h_M0 : M0 6 127 = 0) : f_R_turned_j4_m M0 x90 x96 x99 6 127 = 0 := by
  unfold f_R_turned_j4_m; (try dsimp only)
  (repeat' (first | with_reducible assumption | with_reducible refine ez_ite ?_ ?_ | with_reducible refine ez_mst ?_ (Or.inl (by decide)) | with_reducible refine ez_mst ?_ (Or.inr (by decide)) | with_reducible refine ez_m0 ?_ | with_reducible apply ez_R_flagged))
set_option maxRecDepth 100000 in
set_option maxHeartbeats 4000000 in
theorem ez_R_turned_j3 (M0 : Mem) (x89 : Int32) (x90 : Int32) (x96 : Int32) (h_M0 : M0 6 127 = 0) : f_R_turned_j3_m M0 x89 x90 x96 6 127 = 0 := by
  unfold f_R_turned_j3_m; (try dsimp only)
  (repeat' (first | with_reducible assumption | with_reducible refine ez_ite ?_ ?_ | with_reducible refine ez_mst ?_ (Or.inl (by decide)) | with_reducible refine ez_mst ?_ (Or.inr (by decide)) | with_reducible refine ez_m0 ?_ | with_reducible apply ez_R_turned_j4))
set_option maxRecDepth 100000 in
set_option maxHeartbeats 4000000 in
theorem ez_R_turned_j2 (M0 : Mem) (x88 : Int32) (x89 : Int32) (h_M0 : M0 6 127 = 0) : f_R_turned_j2_m M0 x88 x89 6 127 = 0 := by
  unfold f_R_turned_j2_m; (try dsimp only)
  (repeat' (first | with_reducible assumption | with_reducible refine ez_ite ?_ ?_ | with_reducible refine ez_mst ?_ (Or.inl (by decide)) | with_reducible refine ez_mst ?_ (Or.inr (by decide)) | with_reducible refine ez_m0 ?_ | with_reducible apply ez_R_turned_j3))
set_option maxRecDepth 100000 in
set_option maxHeartbeats 4000000 in
theorem ez_R_turned_j1 (M0 : Mem) (a1 : Int32) (a2 : Int32) (x59 : Int32) (h_M0 : M0 6 127 = 0) : f_R_turned_j1_m M0 a1 a2 x59 6 127 = 0 := by
  unfold f_R_turned_j1_m; (try dsimp only)
  (repeat' (first | with_reducible assumption | with_reducible refine ez_ite ?_ ?_ | with_reducible refine ez_mst ?_ (Or.inl (by decide)) | with_reducible refine ez_mst ?_ (Or.inr (by decide)) | with_reducible refine ez_m0 ?_ | with_reducible apply ez_R_turned_j2))
set_option maxRecDepth 100000 in
set_option maxHeartbeats 4000000 in
theorem ez_R_turned (M0 : Mem) (a1 : Int32) (a2 : Int32) (h_M0 : M0 6 127 = 0) : f_R_turned_m M0 a1 a2 6 127 = 0 := by
  unfold f_R_turned_m; (try dsimp only)
  (repeat' (first | with_reducible assumption | with_reducible refine ez_ite ?_ ?_ | with_reducible refine ez_mst ?_ (Or.inl (by decide)) | with_reducible refine ez_mst ?_ (Or.inr (by decide)) | with_reducible refine ez_m0 ?_ | with_reducible apply ez_R_turned_j1))
set_option maxRecDepth 100000 in
set_option maxHeartbeats 4000000 in
theorem ez_R_adjusts_j2 (x35 : Int32) (M36 : Mem) (x40 : Int32) (h_M36 : M36 6 127 = 0) : f_R_adjusts_j2_m x35 M36 x40 6 127 = 0 := by
  unfold f_R_adjusts_j2_m; (try dsimp only)
  (repeat' (first | with_reducible assumption | with_reducible refine ez_ite ?_ ?_ | with_reducible refine ez_mst ?_ (Or.inl (by decide)) | with_reducible refine ez_mst ?_ (Or.inr (by decide)) | with_reducible refine ez_m0 ?_ | with_reducible apply ez_R_flagged))
set_option maxRecDepth 100000 in
set_option maxHeartbeats 4000000 in
theorem ez_R_adjusts_j1 (M0 : Mem) (x34 : Int32) (x35 : Int32) (h_M0 : M0 6 127 = 0) : f_R_adjusts_j1_m M0 x34 x35 6 127 = 0 := by
  unfold f_R_adjusts_j1_m; (try dsimp only)
  (repeat' (first | with_reducible assumption | with_reducible refine ez_ite ?_ ?_ | with_reducible refine ez_mst ?_ (Or.inl (by decide)) | with_reducible refine ez_mst ?_ (Or.inr (by decide)) | with_reducible refine ez_m0 ?_ | with_reducible apply ez_R_adjusts_j2))
set_option maxRecDepth 100000 in
set_option maxHeartbeats 4000000 in
theorem ez_R_adjusts_j4 (M0 : Mem) (x49 : Int32) (x50 : Int32) (h_M0 : M0 6 127 = 0) : f_R_adjusts_j4_m M0 x49 x50 6 127 = 0 := by
  unfold f_R_adjusts_j4_m; (try dsimp only)
  (repeat' (first | with_reducible assumption | with_reducible refine ez_ite ?_ ?_ | with_reducible refine ez_mst ?_ (Or.inl (by decide)) | with_reducible refine ez_mst ?_ (Or.inr (by decide)) | with_reducible refine ez_m0 ?_ | with_reducible apply ez_R_adjusts_j1))
set_option maxRecDepth 100000 in
set_option maxHeartbeats 4000000 in
theorem ez_R_adjusts_j3 (M0 : Mem) (x2 : Int32) (x49 : Int32) (x50 : Int32) (h_M0 : M0 6 127 = 0) : f_R_adjusts_j3_m M0 x2 x49 x50 6 127 = 0 := by
  unfold f_R_adjusts_j3_m; (try dsimp only)
  (repeat' (first | with_reducible assumption | with_reducible refine ez_ite ?_ ?_ | with_reducible refine ez_mst ?_ (Or.inl (by decide)) | with_reducible refine ez_mst ?_ (Or.inr (by decide)) | with_reducible refine ez_m0 ?_ | with_reducible apply ez_R_adjusts_j1 | with_reducible apply ez_R_adjusts_j4))
set_option maxRecDepth 100000 in
set_option maxHeartbeats 4000000 in
theorem ez_R_adjusts_j5 (M0 : Mem) (x1 : Int32) (x2 : Int32) (h_M0 : M0 6 127 = 0) : f_R_adjusts_j5_m M0 x1 x2 6 127 = 0 := by
  unfold f_R_adjusts_j5_m; (try dsimp only)
  (repeat' (first | with_reducible assumption | with_reducible refine ez_ite ?_ ?_ | with_reducible refine ez_mst ?_ (Or.inl (by decide)) | with_reducible refine ez_mst ?_ (Or.inr (by decide)) | with_reducible refine ez_m0 ?_ | with_reducible apply ez_R_adjusts_j3))
set_option maxRecDepth 100000 in
set_option maxHeartbeats 4000000 in
theorem ez_R_adjusts_j6 (M0 : Mem) (x3 : Int32) (x59 : Int32) (h_M0 : M0 6 127 = 0) : f_R_adjusts_j6_m M0 x3 x59 6 127 = 0 := by
  unfold f_R_adjusts_j6_m; (try dsimp only)
  (repeat' (first | with_reducible assumption | with_reducible refine ez_ite ?_ ?_ | with_reducible refine ez_mst ?_ (Or.inl (by decide)) | with_reducible refine ez_mst ?_ (Or.inr (by decide)) | with_reducible refine ez_m0 ?_ | with_reducible apply ez_R_adjusts_j1))
set_option maxRecDepth 100000 in
set_option maxHeartbeats 4000000 in
theorem ez_R_adjusts (M0 : Mem) (h_M0 : M0 6 127 = 0) : f_R_adjusts_m M0 6 127 = 0 := by
  unfold f_R_adjusts_m; (try dsimp only)
  (repeat' (first | with_reducible assumption | with_reducible refine ez_ite ?_ ?_ | with_reducible refine ez_mst ?_ (Or.inl (by decide)) | with_reducible refine ez_mst ?_ (Or.inr (by decide)) | with_reducible refine ez_m0 ?_ | with_reducible apply ez_R_adjusts_j3 | with_reducible apply ez_R_adjusts_j5 | with_reducible apply ez_R_adjusts_j6))
set_option maxRecDepth 100000 in
set_option maxHeartbeats 4000000 in
theorem ez_R_jumps (M0 : Mem) (a1 : Int32) (a2 : Int32) (h_M0 : M0 6 127 = 0) : f_R_jumps_m M0 a1 a2 6 127 = 0 := by
  unfold f_R_jumps_m; (try dsimp only)
  (repeat' (first | with_reducible assumption | with_reducible refine ez_ite ?_ ?_ | with_reducible refine ez_mst ?_ (Or.inl (by decide)) | with_reducible refine ez_mst ?_ (Or.inr (by decide)) | with_reducible refine ez_m0 ?_))
set_option maxRecDepth 100000 in
set_option maxHeartbeats 4000000 in
theorem ez_R_calls (M0 : Mem) (a1 : Int32) (a2 : Int32) (h_M0 : M0 6 127 = 0) : f_R_calls_m M0 a1 a2 6 127 = 0 := by
  unfold f_R_calls_m; (try dsimp only)
  (repeat' (first | with_reducible assumption | with_reducible refine ez_ite ?_ ?_ | with_reducible refine ez_mst ?_ (Or.inl (by decide)) | with_reducible refine ez_mst ?_ (Or.inr (by decide)) | with_reducible refine ez_m0 ?_ | with_reducible apply ez_R_push))
set_option maxRecDepth 100000 in
set_option maxHeartbeats 4000000 in
theorem ez_R_accumulator_j1 (M20 : Mem) (h_M20 : M20 6 127 = 0) : f_R_accumulator_j1_m M20 6 127 = 0 := by
  unfold f_R_accumulator_j1_m; (try dsimp only)
  (repeat' (first | with_reducible assumption | with_reducible refine ez_ite ?_ ?_ | with_reducible refine ez_mst ?_ (Or.inl (by decide)) | with_reducible refine ez_mst ?_ (Or.inr (by decide)) | with_reducible refine ez_m0 ?_))
set_option maxRecDepth 100000 in
set_option maxHeartbeats 4000000 in
theorem ez_R_accumulator_j2 (M0 : Mem) (x30 : Int32) (h_M0 : M0 6 127 = 0) : f_R_accumulator_j2_m M0 x30 6 127 = 0 := by
  unfold f_R_accumulator_j2_m; (try dsimp only)
  (repeat' (first | with_reducible assumption | with_reducible refine ez_ite ?_ ?_ | with_reducible refine ez_mst ?_ (Or.inl (by decide)) | with_reducible refine ez_mst ?_ (Or.inr (by decide)) | with_reducible refine ez_m0 ?_ | with_reducible apply ez_R_accumulator_j1 | with_reducible apply ez_R_flag))
set_option maxRecDepth 100000 in
set_option maxHeartbeats 4000000 in
theorem ez_R_accumulator_j3 (M0 : Mem) (h_M0 : M0 6 127 = 0) : f_R_accumulator_j3_m M0 6 127 = 0 := by
  unfold f_R_accumulator_j3_m; (try dsimp only)
  (repeat' (first | with_reducible assumption | with_reducible refine ez_ite ?_ ?_ | with_reducible refine ez_mst ?_ (Or.inl (by decide)) | with_reducible refine ez_mst ?_ (Or.inr (by decide)) | with_reducible refine ez_m0 ?_ | with_reducible apply ez_R_accumulator_j2))
set_option maxRecDepth 100000 in
set_option maxHeartbeats 4000000 in
theorem ez_R_accumulator (M0 : Mem) (a1 : Int32) (h_M0 : M0 6 127 = 0) : f_R_accumulator_m M0 a1 6 127 = 0 := by
  unfold f_R_accumulator_m; (try dsimp only)
  (repeat' (first | with_reducible assumption | with_reducible refine ez_ite ?_ ?_ | with_reducible refine ez_mst ?_ (Or.inl (by decide)) | with_reducible refine ez_mst ?_ (Or.inr (by decide)) | with_reducible refine ez_m0 ?_ | with_reducible apply ez_R_accumulator_j1 | with_reducible apply ez_R_accumulator_j2 | with_reducible apply ez_R_accumulator_j3 | with_reducible apply ez_R_adjusts | with_reducible apply ez_R_flag | with_reducible apply ez_R_turned))
set_option maxRecDepth 100000 in
set_option maxHeartbeats 4000000 in
theorem ez_R_first_j1 (M214 : Mem) (h_M214 : M214 6 127 = 0) : f_R_first_j1_m M214 6 127 = 0 := by
  unfold f_R_first_j1_m; (try dsimp only)
  (repeat' (first | with_reducible assumption | with_reducible refine ez_ite ?_ ?_ | with_reducible refine ez_mst ?_ (Or.inl (by decide)) | with_reducible refine ez_mst ?_ (Or.inr (by decide)) | with_reducible refine ez_m0 ?_))
set_option maxRecDepth 100000 in
set_option maxHeartbeats 4000000 in
theorem ez_R_first_j2 (M216 : Mem) (x217 : Int32) (x221 : Int32) (h_M216 : M216 6 127 = 0) : f_R_first_j2_m M216 x217 x221 6 127 = 0 := by
  unfold f_R_first_j2_m; (try dsimp only)
  (repeat' (first | with_reducible assumption | with_reducible refine ez_ite ?_ ?_ | with_reducible refine ez_mst ?_ (Or.inl (by decide)) | with_reducible refine ez_mst ?_ (Or.inr (by decide)) | with_reducible refine ez_m0 ?_ | with_reducible apply ez_R_first_j1 | with_reducible apply ez_R_jumps))
set_option maxRecDepth 100000 in
set_option maxHeartbeats 4000000 in
theorem ez_R_first_j3 (M216 : Mem) (x217 : Int32) (h_M216 : M216 6 127 = 0) : f_R_first_j3_m M216 x217 6 127 = 0 := by
  unfold f_R_first_j3_m; (try dsimp only)
  (repeat' (first | with_reducible assumption | with_reducible refine ez_ite ?_ ?_ | with_reducible refine ez_mst ?_ (Or.inl (by decide)) | with_reducible refine ez_mst ?_ (Or.inr (by decide)) | with_reducible refine ez_m0 ?_ | with_reducible apply ez_R_first_j2))
set_option maxRecDepth 100000 in
set_option maxHeartbeats 4000000 in
theorem ez_R_first_j5 (x231 : Int32) (x232 : Int32) (M245 : Mem) (x250 : Int32) (h_M245 : M245 6 127 = 0) : f_R_first_j5_m x231 x232 M245 x250 6 127 = 0 := by
  unfold f_R_first_j5_m; (try dsimp only)
  (repeat' (first | with_reducible assumption | with_reducible refine ez_ite ?_ ?_ | with_reducible refine ez_mst ?_ (Or.inl (by decide)) | with_reducible refine ez_mst ?_ (Or.inr (by decide)) | with_reducible refine ez_m0 ?_ | with_reducible apply ez_R_first_j1 | with_reducible apply ez_R_flag | with_reducible apply ez_R_setPair))
set_option maxRecDepth 100000 in
set_option maxHeartbeats 4000000 in
theorem ez_R_first_j4 (x231 : Int32) (x232 : Int32) (M233 : Mem) (x244 : Int32) (h_M233 : M233 6 127 = 0) : f_R_first_j4_m x231 x232 M233 x244 6 127 = 0 := by
  unfold f_R_first_j4_m; (try dsimp only)
  (repeat' (first | with_reducible assumption | with_reducible refine ez_ite ?_ ?_ | with_reducible refine ez_mst ?_ (Or.inl (by decide)) | with_reducible refine ez_mst ?_ (Or.inr (by decide)) | with_reducible refine ez_m0 ?_ | with_reducible apply ez_R_first_j5 | with_reducible apply ez_R_flag))
set_option maxRecDepth 100000 in
set_option maxHeartbeats 4000000 in
theorem ez_R_first_j8 (M288 : Mem) (x291 : Int32) (h_M288 : M288 6 127 = 0) : f_R_first_j8_m M288 x291 6 127 = 0 := by
  unfold f_R_first_j8_m; (try dsimp only)
  (repeat' (first | with_reducible assumption | with_reducible refine ez_ite ?_ ?_ | with_reducible refine ez_mst ?_ (Or.inl (by decide)) | with_reducible refine ez_mst ?_ (Or.inr (by decide)) | with_reducible refine ez_m0 ?_ | with_reducible apply ez_R_first_j1 | with_reducible apply ez_R_setPair))
set_option maxRecDepth 100000 in
set_option maxHeartbeats 4000000 in
theorem ez_R_first_j7 (x2 : Int32) (x278 : Int32) (M288 : Mem) (h_M288 : M288 6 127 = 0) : f_R_first_j7_m x2 x278 M288 6 127 = 0 := by
  unfold f_R_first_j7_m; (try dsimp only)
  (repeat' (first | with_reducible assumption | with_reducible refine ez_ite ?_ ?_ | with_reducible refine ez_mst ?_ (Or.inl (by decide)) | with_reducible refine ez_mst ?_ (Or.inr (by decide)) | with_reducible refine ez_m0 ?_ | with_reducible apply ez_R_first_j1 | with_reducible apply ez_R_first_j8))
set_option maxRecDepth 100000 in
set_option maxHeartbeats 4000000 in
theorem ez_R_first_j6 (M0 : Mem) (x1 : Int32) (x2 : Int32) (x278 : Int32) (h_M0 : M0 6 127 = 0) : f_R_first_j6_m M0 x1 x2 x278 6 127 = 0 := by
  unfold f_R_first_j6_m; (try dsimp only)
  (repeat' (first | with_reducible assumption | with_reducible refine ez_ite ?_ ?_ | with_reducible refine ez_mst ?_ (Or.inl (by decide)) | with_reducible refine ez_mst ?_ (Or.inr (by decide)) | with_reducible refine ez_m0 ?_ | with_reducible apply ez_R_first_j7 | with_reducible apply ez_R_reads | with_reducible apply ez_R_writes))
set_option maxRecDepth 100000 in
set_option maxHeartbeats 4000000 in
theorem ez_R_first_j9 (M0 : Mem) (x2 : Int32) (x304 : Int32) (h_M0 : M0 6 127 = 0) : f_R_first_j9_m M0 x2 x304 6 127 = 0 := by
  unfold f_R_first_j9_m; (try dsimp only)
  (repeat' (first | with_reducible assumption | with_reducible refine ez_ite ?_ ?_ | with_reducible refine ez_mst ?_ (Or.inl (by decide)) | with_reducible refine ez_mst ?_ (Or.inr (by decide)) | with_reducible refine ez_m0 ?_ | with_reducible apply ez_R_first_j1 | with_reducible apply ez_R_setPair))
set_option maxRecDepth 100000 in
set_option maxHeartbeats 4000000 in
theorem ez_R_first_j14 (M410 : Mem) (x419 : Int32) (h_M410 : M410 6 127 = 0) : f_R_first_j14_m M410 x419 6 127 = 0 := by
  unfold f_R_first_j14_m; (try dsimp only)
  (repeat' (first | with_reducible assumption | with_reducible refine ez_ite ?_ ?_ | with_reducible refine ez_mst ?_ (Or.inl (by decide)) | with_reducible refine ez_mst ?_ (Or.inr (by decide)) | with_reducible refine ez_m0 ?_ | with_reducible apply ez_R_first_j1 | with_reducible apply ez_R_flag))
set_option maxRecDepth 100000 in
set_option maxHeartbeats 4000000 in
theorem ez_R_first_j13 (x309 : Int32) (M410 : Mem) (x416 : Int32) (h_M410 : M410 6 127 = 0) : f_R_first_j13_m x309 M410 x416 6 127 = 0 := by
  unfold f_R_first_j13_m; (try dsimp only)
  (repeat' (first | with_reducible assumption | with_reducible refine ez_ite ?_ ?_ | with_reducible refine ez_mst ?_ (Or.inl (by decide)) | with_reducible refine ez_mst ?_ (Or.inr (by decide)) | with_reducible refine ez_m0 ?_ | with_reducible apply ez_R_first_j14))
set_option maxRecDepth 100000 in
set_option maxHeartbeats 4000000 in
theorem ez_R_first_j12 (a2 : Int32) (x309 : Int32) (M396 : Mem) (x409 : Int32) (h_M396 : M396 6 127 = 0) : f_R_first_j12_m a2 x309 M396 x409 6 127 = 0 := by
  unfold f_R_first_j12_m; (try dsimp only)
  (repeat' (first | with_reducible assumption | with_reducible refine ez_ite ?_ ?_ | with_reducible refine ez_mst ?_ (Or.inl (by decide)) | with_reducible refine ez_mst ?_ (Or.inr (by decide)) | with_reducible refine ez_m0 ?_ | with_reducible apply ez_R_first_j13 | with_reducible apply ez_R_flag))
set_option maxRecDepth 100000 in
set_option maxHeartbeats 4000000 in
theorem ez_R_first_j11 (a2 : Int32) (x309 : Int32) (M368 : Mem) (x395 : Int32) (h_M368 : M368 6 127 = 0) : f_R_first_j11_m a2 x309 M368 x395 6 127 = 0 := by
  unfold f_R_first_j11_m; (try dsimp only)
  (repeat' (first | with_reducible assumption | with_reducible refine ez_ite ?_ ?_ | with_reducible refine ez_mst ?_ (Or.inl (by decide)) | with_reducible refine ez_mst ?_ (Or.inr (by decide)) | with_reducible refine ez_m0 ?_ | with_reducible apply ez_R_first_j12 | with_reducible apply ez_R_flag))
set_option maxRecDepth 100000 in
set_option maxHeartbeats 4000000 in
theorem ez_R_first_j10 (a1 : Int32) (a2 : Int32) (x309 : Int32) (M310 : Mem) (x366 : Int32) (h_M310 : M310 6 127 = 0) : f_R_first_j10_m a1 a2 x309 M310 x366 6 127 = 0 := by
  unfold f_R_first_j10_m; (try dsimp only)
  (repeat' (first | with_reducible assumption | with_reducible refine ez_ite ?_ ?_ | with_reducible refine ez_mst ?_ (Or.inl (by decide)) | with_reducible refine ez_mst ?_ (Or.inr (by decide)) | with_reducible refine ez_m0 ?_ | with_reducible apply ez_R_first_j11 | with_reducible apply ez_R_setOperand))
set_option maxRecDepth 100000 in
set_option maxHeartbeats 4000000 in
theorem ez_R_first (M0 : Mem) (a1 : Int32) (a2 : Int32) (h_M0 : M0 6 127 = 0) : f_R_first_m M0 a1 a2 6 127 = 0 := by
  unfold f_R_first_m; (try dsimp only)
  (repeat' (first | with_reducible assumption | with_reducible refine ez_ite ?_ ?_ | with_reducible refine ez_mst ?_ (Or.inl (by decide)) | with_reducible refine ez_mst ?_ (Or.inr (by decide)) | with_reducible refine ez_m0 ?_ | with_reducible apply ez_R_accumulator | with_reducible apply ez_R_first_j1 | with_reducible apply ez_R_first_j10 | with_reducible apply ez_R_first_j2 | with_reducible apply ez_R_first_j3 | with_reducible apply ez_R_first_j4 | with_reducible apply ez_R_first_j6 | with_reducible apply ez_R_first_j9 | with_reducible apply ez_R_flag | with_reducible apply ez_R_next | with_reducible apply ez_R_nextWord | with_reducible apply ez_R_operand | with_reducible apply ez_R_setOperand | with_reducible apply ez_R_setPair | with_reducible apply ez_R_writes))
set_option maxRecDepth 100000 in
set_option maxHeartbeats 4000000 in
theorem ez_R_spAnd_j2 (x1 : Int32) (M2 : Mem) (x10 : Int32) (x14 : Int32) (h_M2 : M2 6 127 = 0) : f_R_spAnd_j2_m x1 M2 x10 x14 6 127 = 0 := by
  unfold f_R_spAnd_j2_m; (try dsimp only)
  (repeat' (first | with_reducible assumption | with_reducible refine ez_ite ?_ ?_ | with_reducible refine ez_mst ?_ (Or.inl (by decide)) | with_reducible refine ez_mst ?_ (Or.inr (by decide)) | with_reducible refine ez_m0 ?_ | with_reducible apply ez_R_flagged))
set_option maxRecDepth 100000 in
set_option maxHeartbeats 4000000 in
theorem ez_R_spAnd_j1 (x1 : Int32) (M2 : Mem) (x10 : Int32) (h_M2 : M2 6 127 = 0) : f_R_spAnd_j1_m x1 M2 x10 6 127 = 0 := by
  unfold f_R_spAnd_j1_m; (try dsimp only)
  (repeat' (first | with_reducible assumption | with_reducible refine ez_ite ?_ ?_ | with_reducible refine ez_mst ?_ (Or.inl (by decide)) | with_reducible refine ez_mst ?_ (Or.inr (by decide)) | with_reducible refine ez_m0 ?_ | with_reducible apply ez_R_spAnd_j2))
set_option maxRecDepth 100000 in
set_option maxHeartbeats 4000000 in
theorem ez_R_spAnd (M0 : Mem) (h_M0 : M0 6 127 = 0) : f_R_spAnd_m M0 6 127 = 0 := by
  unfold f_R_spAnd_m; (try dsimp only)
  (repeat' (first | with_reducible assumption | with_reducible refine ez_ite ?_ ?_ | with_reducible refine ez_mst ?_ (Or.inl (by decide)) | with_reducible refine ez_mst ?_ (Or.inr (by decide)) | with_reducible refine ez_m0 ?_ | with_reducible apply ez_R_next | with_reducible apply ez_R_spAnd_j1))
set_option maxRecDepth 100000 in
set_option maxHeartbeats 4000000 in
theorem ez_R_bits_j1 (M24 : Mem) (h_M24 : M24 6 127 = 0) : f_R_bits_j1_m M24 6 127 = 0 := by
  unfold f_R_bits_j1_m; (try dsimp only)
  (repeat' (first | with_reducible assumption | with_reducible refine ez_ite ?_ ?_ | with_reducible refine ez_mst ?_ (Or.inl (by decide)) | with_reducible refine ez_mst ?_ (Or.inr (by decide)) | with_reducible refine ez_m0 ?_))
set_option maxRecDepth 100000 in
set_option maxHeartbeats 4000000 in
theorem ez_R_bits_j2 (x5 : Int32) (M7 : Mem) (x27 : Int32) (h_M7 : M7 6 127 = 0) : f_R_bits_j2_m x5 M7 x27 6 127 = 0 := by
  unfold f_R_bits_j2_m; (try dsimp only)
  (repeat' (first | with_reducible assumption | with_reducible refine ez_ite ?_ ?_ | with_reducible refine ez_mst ?_ (Or.inl (by decide)) | with_reducible refine ez_mst ?_ (Or.inr (by decide)) | with_reducible refine ez_m0 ?_ | with_reducible apply ez_R_bits_j1 | with_reducible apply ez_R_setOperand))
set_option maxRecDepth 100000 in
set_option maxHeartbeats 4000000 in
theorem ez_R_bits_j3 (M7 : Mem) (x33 : Int32) (h_M7 : M7 6 127 = 0) : f_R_bits_j3_m M7 x33 6 127 = 0 := by
  unfold f_R_bits_j3_m; (try dsimp only)
  (repeat' (first | with_reducible assumption | with_reducible refine ez_ite ?_ ?_ | with_reducible refine ez_mst ?_ (Or.inl (by decide)) | with_reducible refine ez_mst ?_ (Or.inr (by decide)) | with_reducible refine ez_m0 ?_ | with_reducible apply ez_R_bits_j1 | with_reducible apply ez_R_flag))
set_option maxRecDepth 100000 in
set_option maxHeartbeats 4000000 in
theorem ez_R_bits (M0 : Mem) (h_M0 : M0 6 127 = 0) : f_R_bits_m M0 6 127 = 0 := by
  unfold f_R_bits_m; (try dsimp only)
  (repeat' (first | with_reducible assumption | with_reducible refine ez_ite ?_ ?_ | with_reducible refine ez_mst ?_ (Or.inl (by decide)) | with_reducible refine ez_mst ?_ (Or.inr (by decide)) | with_reducible refine ez_m0 ?_ | with_reducible apply ez_R_bits_j1 | with_reducible apply ez_R_bits_j2 | with_reducible apply ez_R_bits_j3 | with_reducible apply ez_R_next | with_reducible apply ez_R_operand | with_reducible apply ez_R_setOperand | with_reducible apply ez_R_turned))
set_option maxRecDepth 100000 in
set_option maxHeartbeats 4000000 in
theorem ez_R_third_j1 (M90 : Mem) (h_M90 : M90 6 127 = 0) : f_R_third_j1_m M90 6 127 = 0 := by
  unfold f_R_third_j1_m; (try dsimp only)
  (repeat' (first | with_reducible assumption | with_reducible refine ez_ite ?_ ?_ | with_reducible refine ez_mst ?_ (Or.inl (by decide)) | with_reducible refine ez_mst ?_ (Or.inr (by decide)) | with_reducible refine ez_m0 ?_))
set_option maxRecDepth 100000 in
set_option maxHeartbeats 4000000 in
theorem ez_R_third_j2 (M129 : Mem) (h_M129 : M129 6 127 = 0) : f_R_third_j2_m M129 6 127 = 0 := by
  unfold f_R_third_j2_m; (try dsimp only)
  (repeat' (first | with_reducible assumption | with_reducible refine ez_ite ?_ ?_ | with_reducible refine ez_mst ?_ (Or.inl (by decide)) | with_reducible refine ez_mst ?_ (Or.inr (by decide)) | with_reducible refine ez_m0 ?_ | with_reducible apply ez_R_third_j1))
set_option maxRecDepth 100000 in
set_option maxHeartbeats 4000000 in
theorem ez_R_third_j3 (M0 : Mem) (x169 : Int32) (h_M0 : M0 6 127 = 0) : f_R_third_j3_m M0 x169 6 127 = 0 := by
  unfold f_R_third_j3_m; (try dsimp only)
  (repeat' (first | with_reducible assumption | with_reducible refine ez_ite ?_ ?_ | with_reducible refine ez_mst ?_ (Or.inl (by decide)) | with_reducible refine ez_mst ?_ (Or.inr (by decide)) | with_reducible refine ez_m0 ?_ | with_reducible apply ez_R_push | with_reducible apply ez_R_third_j1))
set_option maxRecDepth 100000 in
set_option maxHeartbeats 4000000 in
theorem ez_R_third (M0 : Mem) (a1 : Int32) (a2 : Int32) (h_M0 : M0 6 127 = 0) : f_R_third_m M0 a1 a2 6 127 = 0 := by
  unfold f_R_third_m; (try dsimp only)
  (repeat' (first | with_reducible assumption | with_reducible refine ez_ite ?_ ?_ | with_reducible refine ez_mst ?_ (Or.inl (by decide)) | with_reducible refine ez_mst ?_ (Or.inr (by decide)) | with_reducible refine ez_m0 ?_ | with_reducible apply ez_R_bits | with_reducible apply ez_R_calls | with_reducible apply ez_R_jumps | with_reducible apply ez_R_next | with_reducible apply ez_R_nextWord | with_reducible apply ez_R_pop | with_reducible apply ez_R_reads | with_reducible apply ez_R_reckons | with_reducible apply ez_R_setPair | with_reducible apply ez_R_spAnd | with_reducible apply ez_R_third_j1 | with_reducible apply ez_R_third_j2 | with_reducible apply ez_R_third_j3 | with_reducible apply ez_R_writes))
set_option maxRecDepth 100000 in
set_option maxHeartbeats 4000000 in
theorem ez_R_step_j3 (M87 : Mem) (h_M87 : M87 6 127 = 0) : f_R_step_j3_m M87 6 127 = 0 := by
  unfold f_R_step_j3_m; (try dsimp only)
  (repeat' (first | with_reducible assumption | with_reducible refine ez_ite ?_ ?_ | with_reducible refine ez_mst ?_ (Or.inl (by decide)) | with_reducible refine ez_mst ?_ (Or.inr (by decide)) | with_reducible refine ez_m0 ?_))
set_option maxRecDepth 100000 in
set_option maxHeartbeats 4000000 in
theorem ez_R_step_j2 (x59 : Int32) (x61 : Int32) (M83 : Mem) (h_M83 : M83 6 127 = 0) : f_R_step_j2_m x59 x61 M83 6 127 = 0 := by
  unfold f_R_step_j2_m; (try dsimp only)
  (repeat' (first | with_reducible assumption | with_reducible refine ez_ite ?_ ?_ | with_reducible refine ez_mst ?_ (Or.inl (by decide)) | with_reducible refine ez_mst ?_ (Or.inr (by decide)) | with_reducible refine ez_m0 ?_ | with_reducible apply ez_R_step_j3))
set_option maxRecDepth 100000 in
set_option maxHeartbeats 4000000 in
theorem ez_R_step_j1 (M58 : Mem) (h_M58 : M58 6 127 = 0) : f_R_step_j1_m M58 6 127 = 0 := by
  unfold f_R_step_j1_m; (try dsimp only)
  (repeat' (first | with_reducible assumption | with_reducible refine ez_ite ?_ ?_ | with_reducible refine ez_mst ?_ (Or.inl (by decide)) | with_reducible refine ez_mst ?_ (Or.inr (by decide)) | with_reducible refine ez_m0 ?_ | with_reducible apply ez_R_first | with_reducible apply ez_R_next | with_reducible apply ez_R_operand | with_reducible apply ez_R_reckons | with_reducible apply ez_R_setOperand | with_reducible apply ez_R_step_j2 | with_reducible apply ez_R_third))
set_option maxRecDepth 100000 in
set_option maxHeartbeats 4000000 in
theorem ez_R_step_l1 (x1 : Int32) (M102 : Mem) (h_M102 : M102 6 127 = 0) : ∀ (n : Nat) (x103 : Int32), f_R_step_l1_m x1 M102 n x103 6 127 = 0 := by
  intro n
  induction n with
  | zero => intro x103 ; rfl
  | succ n ih =>
    intro x103 
    rw [f_R_step_l1_m_s]; dsimp only
    (repeat' (first | with_reducible assumption | with_reducible refine ez_ite ?_ ?_ | with_reducible refine ez_mst ?_ (Or.inl (by decide)) | with_reducible refine ez_mst ?_ (Or.inr (by decide)) | with_reducible refine ez_m0 ?_ | with_reducible apply ez_R_push | apply ih))
set_option maxRecDepth 100000 in
set_option maxHeartbeats 4000000 in
theorem ez_R_step (M0 : Mem) (h_M0 : M0 6 127 = 0) : f_R_step_m M0 6 127 = 0 := by
  unfold f_R_step_m; (try dsimp only)
  (repeat' (first | with_reducible assumption | with_reducible refine ez_ite ?_ ?_ | with_reducible refine ez_mst ?_ (Or.inl (by decide)) | with_reducible refine ez_mst ?_ (Or.inr (by decide)) | with_reducible refine ez_m0 ?_ | with_reducible apply ez_R_step_j1 | with_reducible apply ez_R_step_l1))
set_option maxRecDepth 100000 in
set_option maxHeartbeats 4000000 in
theorem ez_R_cycle_j4 (x172 : Int32) (M177 : Mem) (h_M177 : M177 6 127 = 0) : f_R_cycle_j4_m x172 M177 6 127 = 0 := by
  unfold f_R_cycle_j4_m; (try dsimp only)
  (repeat' (first | with_reducible assumption | with_reducible refine ez_ite ?_ ?_ | with_reducible refine ez_mst ?_ (Or.inl (by decide)) | with_reducible refine ez_mst ?_ (Or.inr (by decide)) | with_reducible refine ez_m0 ?_))
set_option maxRecDepth 100000 in
set_option maxHeartbeats 4000000 in
theorem ez_R_cycle_j3 (M171 : Mem) (h_M171 : M171 6 127 = 0) : f_R_cycle_j3_m M171 6 127 = 0 := by
  unfold f_R_cycle_j3_m; (try dsimp only)
  (repeat' (first | with_reducible assumption | with_reducible refine ez_ite ?_ ?_ | with_reducible refine ez_mst ?_ (Or.inl (by decide)) | with_reducible refine ez_mst ?_ (Or.inr (by decide)) | with_reducible refine ez_m0 ?_ | with_reducible apply ez_R_cycle_j4))
set_option maxRecDepth 100000 in
set_option maxHeartbeats 4000000 in
theorem ez_R_cycle_j5 (M184 : Mem) (x189 : Int32) (h_M184 : M184 6 127 = 0) : f_R_cycle_j5_m M184 x189 6 127 = 0 := by
  unfold f_R_cycle_j5_m; (try dsimp only)
  (repeat' (first | with_reducible assumption | with_reducible refine ez_ite ?_ ?_ | with_reducible refine ez_mst ?_ (Or.inl (by decide)) | with_reducible refine ez_mst ?_ (Or.inr (by decide)) | with_reducible refine ez_m0 ?_ | with_reducible apply ez_R_cycle_j3))
set_option maxRecDepth 100000 in
set_option maxHeartbeats 4000000 in
theorem ez_R_cycle_j2 (M148 : Mem) (h_M148 : M148 6 127 = 0) : f_R_cycle_j2_m M148 6 127 = 0 := by
  unfold f_R_cycle_j2_m; (try dsimp only)
  (repeat' (first | with_reducible assumption | with_reducible refine ez_ite ?_ ?_ | with_reducible refine ez_mst ?_ (Or.inl (by decide)) | with_reducible refine ez_mst ?_ (Or.inr (by decide)) | with_reducible refine ez_m0 ?_ | with_reducible apply ez_R_cycle_j3 | with_reducible apply ez_R_cycle_j5))
set_option maxRecDepth 100000 in
set_option maxHeartbeats 4000000 in
theorem ez_R_cycle_j1 (M1 : Mem) (x99 : Int32) (h_M1 : M1 6 127 = 0) : f_R_cycle_j1_m M1 x99 6 127 = 0 := by
  unfold f_R_cycle_j1_m; (try dsimp only)
  (repeat' (first | with_reducible assumption | with_reducible refine ez_ite ?_ ?_ | with_reducible refine ez_mst ?_ (Or.inl (by decide)) | with_reducible refine ez_mst ?_ (Or.inr (by decide)) | with_reducible refine ez_m0 ?_ | with_reducible apply ez_R_cycle_j2))
set_option maxRecDepth 100000 in
set_option maxHeartbeats 4000000 in
theorem ez_R_cycle (M0 : Mem) (h_M0 : M0 6 127 = 0) : f_R_cycle_m M0 6 127 = 0 := by
  unfold f_R_cycle_m; (try dsimp only)
  (repeat' (first | with_reducible assumption | with_reducible refine ez_ite ?_ ?_ | with_reducible refine ez_mst ?_ (Or.inl (by decide)) | with_reducible refine ez_mst ?_ (Or.inr (by decide)) | with_reducible refine ez_m0 ?_ | with_reducible apply ez_R_cycle_j1))
set_option maxRecDepth 100000 in
set_option maxHeartbeats 4000000 in
theorem ez_R_write_l1 (a1 : Int32) (a2 : Int32) (a3 : Int64) : ∀ (n : Nat) (x69 : Int32) (M70 : Mem), M70 6 127 = 0 → f_R_write_l1_m a1 a2 a3 n x69 M70 6 127 = 0 := by
  intro n
  induction n with
  | zero => intro x69 M70 h_M70; rfl
  | succ n ih =>
    intro x69 M70 h_M70
    rw [f_R_write_l1_m_s]; dsimp only
    (repeat' (first | with_reducible assumption | with_reducible refine ez_ite ?_ ?_ | with_reducible refine ez_mst ?_ (Or.inl (by decide)) | with_reducible refine ez_mst ?_ (Or.inr (by decide)) | with_reducible refine ez_m0 ?_ | with_reducible apply ez_R_put | apply ih))
set_option maxRecDepth 100000 in
set_option maxHeartbeats 4000000 in
theorem ez_R_row_j3 (x81 : Int32) (x82 : Int32) (M83 : Mem) (K1_m : Int32 → Int32 → Mem → Mem) (x125 : Int32) (h_M83 : M83 6 127 = 0) (hK1 : ∀ (z0 : Int32) (z1 : Int32) (z2 : Mem), z2 6 127 = 0 → K1_m z0 z1 z2 6 127 = 0) : f_R_row_j3_m x81 x82 M83 K1_m x125 6 127 = 0 := by
  unfold f_R_row_j3_m; (try dsimp only)
  (repeat' (first | with_reducible assumption | with_reducible refine ez_ite ?_ ?_ | with_reducible refine ez_mst ?_ (Or.inl (by decide)) | with_reducible refine ez_mst ?_ (Or.inr (by decide)) | with_reducible refine ez_m0 ?_ | apply hK1))
set_option maxRecDepth 100000 in
set_option maxHeartbeats 4000000 in
theorem ez_R_row_j2 (x81 : Int32) (x82 : Int32) (M83 : Mem) (K1_m : Int32 → Int32 → Mem → Mem) (x120 : Int32) (h_M83 : M83 6 127 = 0) (hK1 : ∀ (z0 : Int32) (z1 : Int32) (z2 : Mem), z2 6 127 = 0 → K1_m z0 z1 z2 6 127 = 0) : f_R_row_j2_m x81 x82 M83 K1_m x120 6 127 = 0 := by
  unfold f_R_row_j2_m; (try dsimp only)
  (repeat' (first | with_reducible assumption | with_reducible refine ez_ite ?_ ?_ | with_reducible refine ez_mst ?_ (Or.inl (by decide)) | with_reducible refine ez_mst ?_ (Or.inr (by decide)) | with_reducible refine ez_m0 ?_ | with_reducible apply ez_R_row_j3 | apply hK1))
set_option maxRecDepth 100000 in
set_option maxHeartbeats 4000000 in
theorem ez_R_row_j6 (x81 : Int32) (x82 : Int32) (M83 : Mem) (x148 : Int32) (K1_m : Int32 → Int32 → Mem → Mem) (x151 : Int32) (h_M83 : M83 6 127 = 0) (hK1 : ∀ (z0 : Int32) (z1 : Int32) (z2 : Mem), z2 6 127 = 0 → K1_m z0 z1 z2 6 127 = 0) : f_R_row_j6_m x81 x82 M83 x148 K1_m x151 6 127 = 0 := by
  unfold f_R_row_j6_m; (try dsimp only)
  (repeat' (first | with_reducible assumption | with_reducible refine ez_ite ?_ ?_ | with_reducible refine ez_mst ?_ (Or.inl (by decide)) | with_reducible refine ez_mst ?_ (Or.inr (by decide)) | with_reducible refine ez_m0 ?_ | with_reducible apply ez_R_row_j2 | apply hK1))
set_option maxRecDepth 100000 in
set_option maxHeartbeats 4000000 in
theorem ez_R_row_j5 (a1 : Int32) (x81 : Int32) (x82 : Int32) (M83 : Mem) (x85 : Int32) (K1_m : Int32 → Int32 → Mem → Mem) (x147 : Int32) (h_M83 : M83 6 127 = 0) (hK1 : ∀ (z0 : Int32) (z1 : Int32) (z2 : Mem), z2 6 127 = 0 → K1_m z0 z1 z2 6 127 = 0) : f_R_row_j5_m a1 x81 x82 M83 x85 K1_m x147 6 127 = 0 := by
  unfold f_R_row_j5_m; (try dsimp only)
  (repeat' (first | with_reducible assumption | with_reducible refine ez_ite ?_ ?_ | with_reducible refine ez_mst ?_ (Or.inl (by decide)) | with_reducible refine ez_mst ?_ (Or.inr (by decide)) | with_reducible refine ez_m0 ?_ | with_reducible apply ez_R_row_j6 | apply hK1))
set_option maxRecDepth 100000 in
set_option maxHeartbeats 4000000 in
theorem ez_R_row_j4 (a1 : Int32) (x81 : Int32) (x82 : Int32) (M83 : Mem) (x85 : Int32) (K1_m : Int32 → Int32 → Mem → Mem) (h_M83 : M83 6 127 = 0) (hK1 : ∀ (z0 : Int32) (z1 : Int32) (z2 : Mem), z2 6 127 = 0 → K1_m z0 z1 z2 6 127 = 0) : f_R_row_j4_m a1 x81 x82 M83 x85 K1_m 6 127 = 0 := by
  unfold f_R_row_j4_m; (try dsimp only)
  (repeat' (first | with_reducible assumption | with_reducible refine ez_ite ?_ ?_ | with_reducible refine ez_mst ?_ (Or.inl (by decide)) | with_reducible refine ez_mst ?_ (Or.inr (by decide)) | with_reducible refine ez_m0 ?_ | with_reducible apply ez_R_row_j5 | apply hK1))
set_option maxRecDepth 100000 in
set_option maxHeartbeats 4000000 in
theorem ez_R_row_l1 (a1 : Int32) : ∀ (n : Nat) (x81 : Int32) (x82 : Int32) (M83 : Mem), M83 6 127 = 0 → f_R_row_l1_m a1 n x81 x82 M83 6 127 = 0 := by
  intro n
  induction n with
  | zero => intro x81 x82 M83 h_M83; rfl
  | succ n ih =>
    intro x81 x82 M83 h_M83
    rw [f_R_row_l1_m_s]; dsimp only
    (repeat' (first | with_reducible assumption | with_reducible refine ez_ite ?_ ?_ | with_reducible refine ez_mst ?_ (Or.inl (by decide)) | with_reducible refine ez_mst ?_ (Or.inr (by decide)) | with_reducible refine ez_m0 ?_ | with_reducible apply ez_R_row_j2 | with_reducible apply ez_R_row_j4 | apply ih))
