def f_K_settle_j2_m (M10 : Mem) (x13 : Int32) : Mem := let M14 : Mem := mst M10 1 6 x13; M14
set_option maxRecDepth 100000 in
set_option maxHeartbeats 4000000 in
theorem sp_K_settle_j2 (M10 : Mem) (x13 : Int32) (Q : Mem → Prop) (hQ : Q (f_K_settle_j2_m M10 x13)) : wp_K_settle_j2 M10 x13 Q := by
  unfold wp_K_settle_j2
  unfold f_K_settle_j2_m at hQ
  intro M14 h_; subst h_
  exact hQ
def f_K_settle_j3_m (M10 : Mem) : Mem := (f_K_settle_j2_m M10 (M10 1 9))
set_option maxRecDepth 100000 in
set_option maxHeartbeats 4000000 in
theorem sp_K_settle_j3 (M10 : Mem) (Q : Mem → Prop) (hQ : Q (f_K_settle_j3_m M10)) : wp_K_settle_j3 M10 Q := by
  unfold wp_K_settle_j3
  unfold f_K_settle_j3_m at hQ
  exact sp_K_settle_j2 _ _ _ hQ
def f_K_settle_j1_m (M0 : Mem) (x8 : Int32) : Mem := let M9 : Mem := mst M0 1 4 x8; let M10 : Mem := mst M9 1 5 ((M9 1 8) &&& (7 : Int32)); (if (M10 1 3) = (1 : Int32) then (if (M10 1 10) = 0 then (f_K_settle_j2_m M10 (0 : Int32)) else (f_K_settle_j3_m M10)) else (f_K_settle_j3_m M10))
def ok_K_settle_j1 (M0 : Mem) (x8 : Int32) : Prop := isB x8
set_option maxRecDepth 100000 in
set_option maxHeartbeats 4000000 in
theorem sp_K_settle_j1 (M0 : Mem) (x8 : Int32) (Q : Mem → Prop) (hok : ok_K_settle_j1 M0 x8) (hQ : Q (f_K_settle_j1_m M0 x8)) : wp_K_settle_j1 M0 x8 Q := by
  unfold wp_K_settle_j1
  unfold ok_K_settle_j1 at hok
  unfold f_K_settle_j1_m at hQ
  refine ⟨hok, ?_⟩
  intro M9 h_; subst h_
  intro M10 h_; subst h_
  refine ⟨fun hc => ?_, fun hc => ?_⟩
  · simp only [if_neg hc] at hQ
    exact sp_K_settle_j3 _ _ hQ
  · simp only [if_pos hc] at hQ
    refine ⟨fun hc => ?_, fun hc => ?_⟩
    · simp only [if_neg hc] at hQ
      exact sp_K_settle_j3 _ _ hQ
    · simp only [if_pos hc] at hQ
      exact sp_K_settle_j2 _ _ _ hQ
def f_K_settle_j4_m (M0 : Mem) : Mem := (f_K_settle_j1_m M0 (0 : Int32))
def ok_K_settle_j4 (M0 : Mem) : Prop := ok_K_settle_j1 M0 (0 : Int32)
set_option maxRecDepth 100000 in
set_option maxHeartbeats 4000000 in
theorem sp_K_settle_j4 (M0 : Mem) (Q : Mem → Prop) (hok : ok_K_settle_j4 M0) (hQ : Q (f_K_settle_j4_m M0)) : wp_K_settle_j4 M0 Q := by
  unfold wp_K_settle_j4
  unfold ok_K_settle_j4 at hok
  unfold f_K_settle_j4_m at hQ
  exact sp_K_settle_j1 _ _ _ hok hQ
def f_K_settle_j5_m (M0 : Mem) : Mem := (f_K_settle_j1_m M0 (1 : Int32))
def ok_K_settle_j5 (M0 : Mem) : Prop := ok_K_settle_j1 M0 (1 : Int32)
set_option maxRecDepth 100000 in
set_option maxHeartbeats 4000000 in
theorem sp_K_settle_j5 (M0 : Mem) (Q : Mem → Prop) (hok : ok_K_settle_j5 M0) (hQ : Q (f_K_settle_j5_m M0)) : wp_K_settle_j5 M0 Q := by
  unfold wp_K_settle_j5
  unfold ok_K_settle_j5 at hok
  unfold f_K_settle_j5_m at hQ
  exact sp_K_settle_j1 _ _ _ hok hQ
def f_K_settle_m (M0 : Mem) : Mem := (if (M0 1 2) = 0 then (f_K_settle_j4_m M0) else (if (M0 1 3) = 0 then (f_K_settle_j5_m M0) else (if (M0 1 7) = 0 then (f_K_settle_j4_m M0) else (f_K_settle_j5_m M0))))
def ok_K_settle (M0 : Mem) : Prop := ((((M0 1 2) = 0) → ok_K_settle_j4 M0) ∧ ((¬ (M0 1 2) = 0) → ((((M0 1 3) = 0) → ok_K_settle_j5 M0) ∧ ((¬ (M0 1 3) = 0) → ((((M0 1 7) = 0) → ok_K_settle_j4 M0) ∧ ((¬ (M0 1 7) = 0) → ok_K_settle_j5 M0))))))
set_option maxRecDepth 100000 in
set_option maxHeartbeats 4000000 in
theorem sp_K_settle (M0 : Mem) (Q : Mem → Prop) (hok : ok_K_settle M0) (hQ : Q (f_K_settle_m M0)) : wp_K_settle M0 Q := by
  unfold wp_K_settle
  unfold ok_K_settle at hok
  unfold f_K_settle_m at hQ
  refine ⟨fun hc => ?_, fun hc => ?_⟩
  · simp only [if_pos hc] at hQ
    have hok := hok.1 hc
    exact sp_K_settle_j4 _ _ hok hQ
  · simp only [if_neg hc] at hQ
    have hok := hok.2 hc
    refine ⟨fun hc => ?_, fun hc => ?_⟩
    · simp only [if_pos hc] at hQ
      have hok := hok.1 hc
      exact sp_K_settle_j5 _ _ hok hQ
    · simp only [if_neg hc] at hQ
      have hok := hok.2 hc
      refine ⟨fun hc => ?_, fun hc => ?_⟩
      · simp only [if_pos hc] at hQ
        have hok := hok.1 hc
        exact sp_K_settle_j4 _ _ hok hQ
      · simp only [if_neg hc] at hQ
        have hok := hok.2 hc
        exact sp_K_settle_j5 _ _ hok hQ
def f_K_reset_m (M0 : Mem) : Mem := let M1 : Mem := mst M0 1 7 (0 : Int32); let M2 : Mem := mst M1 1 8 (1 : Int32); let M3 : Mem := mst M2 1 9 (0 : Int32); let M4 : Mem := mst M3 1 10 (0 : Int32); let M5 : Mem := f_K_settle_m M4; M5
def ok_K_reset (M0 : Mem) : Prop := ∀ M1 : Mem, M1 = mst M0 1 7 (0 : Int32) → ∀ M2 : Mem, M2 = mst M1 1 8 (1 : Int32) → ∀ M3 : Mem, M3 = mst M2 1 9 (0 : Int32) → ∀ M4 : Mem, M4 = mst M3 1 10 (0 : Int32) → ok_K_settle M4
set_option maxRecDepth 100000 in
set_option maxHeartbeats 4000000 in
theorem sp_K_reset (M0 : Mem) (Q : Mem → Prop) (hok : ok_K_reset M0) (hQ : Q (f_K_reset_m M0)) : wp_K_reset M0 Q := by
  unfold wp_K_reset
  unfold ok_K_reset at hok
  unfold f_K_reset_m at hQ
  intro M1 h_; subst h_
  have hok := hok _ rfl
  intro M2 h_; subst h_
  have hok := hok _ rfl
  intro M3 h_; subst h_
  have hok := hok _ rfl
  intro M4 h_; subst h_
  have hok := hok _ rfl
  refine sp_K_settle _ _ hok ?_
  exact hQ
def f_P_findState_j1_m (M10 : Mem) : Mem := M10
set_option maxRecDepth 100000 in
set_option maxHeartbeats 4000000 in
theorem sp_P_findState_j1 (M10 : Mem) (Q : Mem → Prop) (hQ : Q (f_P_findState_j1_m M10)) : wp_P_findState_j1 M10 Q := by
  unfold wp_P_findState_j1
  unfold f_P_findState_j1_m at hQ
  exact hQ
def f_P_findState_j2_m (M0 : Mem) (x13 : Int32) : Mem := let M14 : Mem := mst M0 2 6 x13; (f_P_findState_j1_m M14)
set_option maxRecDepth 100000 in
set_option maxHeartbeats 4000000 in
theorem sp_P_findState_j2 (M0 : Mem) (x13 : Int32) (Q : Mem → Prop) (hQ : Q (f_P_findState_j2_m M0 x13)) : wp_P_findState_j2 M0 x13 Q := by
  unfold wp_P_findState_j2
  unfold f_P_findState_j2_m at hQ
  intro M14 h_; subst h_
  exact sp_P_findState_j1 _ _ hQ
def f_P_findState_m (M0 : Mem) : Mem := (if ((M0 8 64) &&& (128 : Int32)) = 0 then let M16 : Mem := mst M0 2 4 (0 : Int32); let M17 : Mem := mst M16 2 5 (0 : Int32); let M18 : Mem := mst M17 2 6 (0 : Int32); (f_P_findState_j1_m M18) else (if (M0 2 5) < (144 : Int32) then (if (20 : Int32) ≤ (M0 2 4) then (if (63 : Int32) ≤ (M0 2 4) then (f_P_findState_j2_m M0 (0 : Int32)) else (f_P_findState_j2_m M0 (3 : Int32))) else (f_P_findState_j2_m M0 (2 : Int32))) else let M15 : Mem := mst M0 2 6 (1 : Int32); (f_P_findState_j1_m M15)))
set_option maxRecDepth 100000 in
set_option maxHeartbeats 4000000 in
theorem sp_P_findState (M0 : Mem) (Q : Mem → Prop) (hQ : Q (f_P_findState_m M0)) : wp_P_findState M0 Q := by
  unfold wp_P_findState
  unfold f_P_findState_m at hQ
  refine ⟨fun hc => ?_, fun hc => ?_⟩
  · simp only [if_neg hc] at hQ
    refine ⟨fun hc => ?_, fun hc => ?_⟩
    · simp only [if_pos hc] at hQ
      refine ⟨fun hc => ?_, fun hc => ?_⟩
      · simp only [if_pos hc] at hQ
        refine ⟨fun hc => ?_, fun hc => ?_⟩
        · simp only [if_pos hc] at hQ
          exact sp_P_findState_j2 _ _ _ hQ
        · simp only [if_neg hc] at hQ
          exact sp_P_findState_j2 _ _ _ hQ
      · simp only [if_neg hc] at hQ
        exact sp_P_findState_j2 _ _ _ hQ
    · simp only [if_neg hc] at hQ
      intro M15 h_; subst h_
      exact sp_P_findState_j1 _ _ hQ
  · simp only [if_pos hc] at hQ
    intro M16 h_; subst h_
    intro M17 h_; subst h_
    intro M18 h_; subst h_
    exact sp_P_findState_j1 _ _ hQ
def f_A_fill8_l1_m (a2 : Int32) (n : Nat) : Int32 → Mem → Mem := Nat.rec (motive := fun _ => Int32 → Mem → Mem) (fun _ _ => (fun _ _ => 0)) (fun _ K1_m x1 M2 => (if (256 : Int32) ≤ x1 then M2 else let M3 : Mem := mst M2 8 x1.toNatClampNeg a2; let x4 : Int32 := x1 + (1 : Int32); (K1_m x4 M3))) n
theorem f_A_fill8_l1_m_s (a2 : Int32) (n : Nat) (x1 : Int32) (M2 : Mem) : f_A_fill8_l1_m a2 (n + 1) x1 M2 = (let K1_m : Int32 → Mem → Mem := f_A_fill8_l1_m a2 n; (if (256 : Int32) ≤ x1 then M2 else let M3 : Mem := mst M2 8 x1.toNatClampNeg a2; let x4 : Int32 := x1 + (1 : Int32); (K1_m x4 M3))) := rfl
def ok_A_fill8_l1 (a2 : Int32) (n : Nat) : Int32 → Mem → Prop := Nat.rec (motive := fun _ => Int32 → Mem → Prop) (fun _ _ => False) (fun _ K1_ok x1 M2 => ((((256 : Int32) ≤ x1) → True) ∧ ((¬ (256 : Int32) ≤ x1) → vp_in x1 256 ∧ (∀ M3 : Mem, M3 = mst M2 8 x1.toNatClampNeg a2 → ∀ x4 : Int32, x4 = x1 + (1 : Int32) → K1_ok x4 M3)))) n
set_option maxRecDepth 100000 in
set_option maxHeartbeats 4000000 in
theorem sp_A_fill8_l1 (a2 : Int32) {Q : Mem → Prop} : ∀ (n : Nat) (x1 : Int32) (M2 : Mem), ok_A_fill8_l1 a2 n x1 M2 → Q (f_A_fill8_l1_m a2 n x1 M2) → wp_A_fill8_l1 a2 Q n x1 M2 := by
  intro n
  induction n with
  | zero => intro x1 M2 hok; exact False.elim hok
  | succ n ih =>
    intro x1 M2 hok hQ
    have hK1 := ih
    rw [f_A_fill8_l1_m_s] at hQ
    refine ⟨fun hc => ?_, fun hc => ?_⟩
    · simp only [if_pos hc] at hQ
      exact hQ
    · simp only [if_neg hc] at hQ
      have hok := hok.2 hc
      refine ⟨hok.1, ?_⟩
      have hok := hok.2
      intro M3 h_; subst h_
      have hok := hok _ rfl
      intro x4 h_; subst h_
      have hok := hok _ rfl
      exact hK1 _ _  hok hQ
def f_A_fill8_m (M0 : Mem) (a2 : Int32) : Mem := (f_A_fill8_l1_m a2 257 (0 : Int32) M0)
def ok_A_fill8 (M0 : Mem) (a2 : Int32) : Prop := ok_A_fill8_l1 a2 257 (0 : Int32) M0
set_option maxRecDepth 100000 in
set_option maxHeartbeats 4000000 in
theorem sp_A_fill8 (M0 : Mem) (a2 : Int32) (Q : Mem → Prop) (hok : ok_A_fill8 M0 a2) (hQ : Q (f_A_fill8_m M0 a2)) : wp_A_fill8 M0 a2 Q := by
  unfold wp_A_fill8
  unfold ok_A_fill8 at hok
  unfold f_A_fill8_m at hQ
  exact ⟨_, sp_A_fill8_l1 _ _ _ _  hok hQ⟩
def f_P_reset_m (M0 : Mem) : Mem := let M1 : Mem := f_A_fill8_m M0 (0 : Int32); let M2 : Mem := mst M1 8 64 (145 : Int32); let M3 : Mem := mst M2 8 71 (252 : Int32); let M4 : Mem := mst M3 8 15 (1 : Int32); let M5 : Mem := mst M4 2 1 (0 : Int32); let M6 : Mem := mst M5 2 3 (0 : Int32); let M7 : Mem := mst M6 2 4 (0 : Int32); let M8 : Mem := mst M7 2 5 (0 : Int32); let M9 : Mem := mst M8 2 7 (0 : Int32); let M10 : Mem := f_P_findState_m M9; M10
def ok_P_reset (M0 : Mem) : Prop := ok_A_fill8 M0 (0 : Int32)
set_option maxRecDepth 100000 in
set_option maxHeartbeats 4000000 in
theorem sp_P_reset (M0 : Mem) (Q : Mem → Prop) (hok : ok_P_reset M0) (hQ : Q (f_P_reset_m M0)) : wp_P_reset M0 Q := by
  unfold wp_P_reset
  unfold ok_P_reset at hok
  unfold f_P_reset_m at hQ
  refine sp_A_fill8 _ _ _ hok ?_
  intro M2 h_; subst h_
  intro M3 h_; subst h_
  intro M4 h_; subst h_
  intro M5 h_; subst h_
  intro M6 h_; subst h_
  intro M7 h_; subst h_
  intro M8 h_; subst h_
  intro M9 h_; subst h_
  refine sp_P_findState _ _ ?_
  exact hQ
def f_A_fill9_l1_m (a2 : Int32) (n : Nat) : Int32 → Mem → Mem := Nat.rec (motive := fun _ => Int32 → Mem → Mem) (fun _ _ => (fun _ _ => 0)) (fun _ K1_m x1 M2 => (if (8192 : Int32) ≤ x1 then M2 else let M3 : Mem := mst M2 9 x1.toNatClampNeg a2; let x4 : Int32 := x1 + (1 : Int32); (K1_m x4 M3))) n
theorem f_A_fill9_l1_m_s (a2 : Int32) (n : Nat) (x1 : Int32) (M2 : Mem) : f_A_fill9_l1_m a2 (n + 1) x1 M2 = (let K1_m : Int32 → Mem → Mem := f_A_fill9_l1_m a2 n; (if (8192 : Int32) ≤ x1 then M2 else let M3 : Mem := mst M2 9 x1.toNatClampNeg a2; let x4 : Int32 := x1 + (1 : Int32); (K1_m x4 M3))) := rfl
def ok_A_fill9_l1 (a2 : Int32) (n : Nat) : Int32 → Mem → Prop := Nat.rec (motive := fun _ => Int32 → Mem → Prop) (fun _ _ => False) (fun _ K1_ok x1 M2 => ((((8192 : Int32) ≤ x1) → True) ∧ ((¬ (8192 : Int32) ≤ x1) → vp_in x1 8192 ∧ (∀ M3 : Mem, M3 = mst M2 9 x1.toNatClampNeg a2 → ∀ x4 : Int32, x4 = x1 + (1 : Int32) → K1_ok x4 M3)))) n
set_option maxRecDepth 100000 in
set_option maxHeartbeats 4000000 in
theorem sp_A_fill9_l1 (a2 : Int32) {Q : Mem → Prop} : ∀ (n : Nat) (x1 : Int32) (M2 : Mem), ok_A_fill9_l1 a2 n x1 M2 → Q (f_A_fill9_l1_m a2 n x1 M2) → wp_A_fill9_l1 a2 Q n x1 M2 := by
  intro n
  induction n with
  | zero => intro x1 M2 hok; exact False.elim hok
  | succ n ih =>
    intro x1 M2 hok hQ
    have hK1 := ih
    rw [f_A_fill9_l1_m_s] at hQ
    refine ⟨fun hc => ?_, fun hc => ?_⟩
    · simp only [if_pos hc] at hQ
      exact hQ
    · simp only [if_neg hc] at hQ
      have hok := hok.2 hc
      refine ⟨hok.1, ?_⟩
      have hok := hok.2
      intro M3 h_; subst h_
      have hok := hok _ rfl
      intro x4 h_; subst h_
      have hok := hok _ rfl
      exact hK1 _ _  hok hQ
def f_A_fill9_m (M0 : Mem) (a2 : Int32) : Mem := (f_A_fill9_l1_m a2 8193 (0 : Int32) M0)
def ok_A_fill9 (M0 : Mem) (a2 : Int32) : Prop := ok_A_fill9_l1 a2 8193 (0 : Int32) M0
set_option maxRecDepth 100000 in
set_option maxHeartbeats 4000000 in
theorem sp_A_fill9 (M0 : Mem) (a2 : Int32) (Q : Mem → Prop) (hok : ok_A_fill9 M0 a2) (hQ : Q (f_A_fill9_m M0 a2)) : wp_A_fill9 M0 a2 Q := by
  unfold wp_A_fill9
  unfold ok_A_fill9 at hok
  unfold f_A_fill9_m at hQ
  exact ⟨_, sp_A_fill9_l1 _ _ _ _  hok hQ⟩
def f_A_fill10_l1_m (a2 : Int32) (n : Nat) : Int32 → Mem → Mem := Nat.rec (motive := fun _ => Int32 → Mem → Mem) (fun _ _ => (fun _ _ => 0)) (fun _ K1_m x1 M2 => (if (160 : Int32) ≤ x1 then M2 else let M3 : Mem := mst M2 10 x1.toNatClampNeg a2; let x4 : Int32 := x1 + (1 : Int32); (K1_m x4 M3))) n
theorem f_A_fill10_l1_m_s (a2 : Int32) (n : Nat) (x1 : Int32) (M2 : Mem) : f_A_fill10_l1_m a2 (n + 1) x1 M2 = (let K1_m : Int32 → Mem → Mem := f_A_fill10_l1_m a2 n; (if (160 : Int32) ≤ x1 then M2 else let M3 : Mem := mst M2 10 x1.toNatClampNeg a2; let x4 : Int32 := x1 + (1 : Int32); (K1_m x4 M3))) := rfl
def ok_A_fill10_l1 (a2 : Int32) (n : Nat) : Int32 → Mem → Prop := Nat.rec (motive := fun _ => Int32 → Mem → Prop) (fun _ _ => False) (fun _ K1_ok x1 M2 => ((((160 : Int32) ≤ x1) → True) ∧ ((¬ (160 : Int32) ≤ x1) → vp_in x1 160 ∧ (∀ M3 : Mem, M3 = mst M2 10 x1.toNatClampNeg a2 → ∀ x4 : Int32, x4 = x1 + (1 : Int32) → K1_ok x4 M3)))) n
set_option maxRecDepth 100000 in
set_option maxHeartbeats 4000000 in
theorem sp_A_fill10_l1 (a2 : Int32) {Q : Mem → Prop} : ∀ (n : Nat) (x1 : Int32) (M2 : Mem), ok_A_fill10_l1 a2 n x1 M2 → Q (f_A_fill10_l1_m a2 n x1 M2) → wp_A_fill10_l1 a2 Q n x1 M2 := by
  intro n
  induction n with
  | zero => intro x1 M2 hok; exact False.elim hok
  | succ n ih =>
    intro x1 M2 hok hQ
    have hK1 := ih
    rw [f_A_fill10_l1_m_s] at hQ
    refine ⟨fun hc => ?_, fun hc => ?_⟩
    · simp only [if_pos hc] at hQ
      exact hQ
    · simp only [if_neg hc] at hQ
      have hok := hok.2 hc
      refine ⟨hok.1, ?_⟩
      have hok := hok.2
      intro M3 h_; subst h_
      have hok := hok _ rfl
      intro x4 h_; subst h_
      have hok := hok _ rfl
      exact hK1 _ _  hok hQ
def f_A_fill10_m (M0 : Mem) (a2 : Int32) : Mem := (f_A_fill10_l1_m a2 161 (0 : Int32) M0)
def ok_A_fill10 (M0 : Mem) (a2 : Int32) : Prop := ok_A_fill10_l1 a2 161 (0 : Int32) M0
set_option maxRecDepth 100000 in
set_option maxHeartbeats 4000000 in
theorem sp_A_fill10 (M0 : Mem) (a2 : Int32) (Q : Mem → Prop) (hok : ok_A_fill10 M0 a2) (hQ : Q (f_A_fill10_m M0 a2)) : wp_A_fill10 M0 a2 Q := by
  unfold wp_A_fill10
  unfold ok_A_fill10 at hok
  unfold f_A_fill10_m at hQ
  exact ⟨_, sp_A_fill10_l1 _ _ _ _  hok hQ⟩
def f_A_fill11_l1_m (a2 : Int32) (n : Nat) : Int32 → Mem → Mem := Nat.rec (motive := fun _ => Int32 → Mem → Mem) (fun _ _ => (fun _ _ => 0)) (fun _ K1_m x1 M2 => (if (1024 : Int32) ≤ x1 then M2 else let M3 : Mem := mst M2 11 x1.toNatClampNeg a2; let x4 : Int32 := x1 + (1 : Int32); (K1_m x4 M3))) n
theorem f_A_fill11_l1_m_s (a2 : Int32) (n : Nat) (x1 : Int32) (M2 : Mem) : f_A_fill11_l1_m a2 (n + 1) x1 M2 = (let K1_m : Int32 → Mem → Mem := f_A_fill11_l1_m a2 n; (if (1024 : Int32) ≤ x1 then M2 else let M3 : Mem := mst M2 11 x1.toNatClampNeg a2; let x4 : Int32 := x1 + (1 : Int32); (K1_m x4 M3))) := rfl
def ok_A_fill11_l1 (a2 : Int32) (n : Nat) : Int32 → Mem → Prop := Nat.rec (motive := fun _ => Int32 → Mem → Prop) (fun _ _ => False) (fun _ K1_ok x1 M2 => ((((1024 : Int32) ≤ x1) → True) ∧ ((¬ (1024 : Int32) ≤ x1) → vp_in x1 1024 ∧ (∀ M3 : Mem, M3 = mst M2 11 x1.toNatClampNeg a2 → ∀ x4 : Int32, x4 = x1 + (1 : Int32) → K1_ok x4 M3)))) n
set_option maxRecDepth 100000 in
set_option maxHeartbeats 4000000 in
theorem sp_A_fill11_l1 (a2 : Int32) {Q : Mem → Prop} : ∀ (n : Nat) (x1 : Int32) (M2 : Mem), ok_A_fill11_l1 a2 n x1 M2 → Q (f_A_fill11_l1_m a2 n x1 M2) → wp_A_fill11_l1 a2 Q n x1 M2 := by
  intro n
  induction n with
  | zero => intro x1 M2 hok; exact False.elim hok
  | succ n ih =>
    intro x1 M2 hok hQ
    have hK1 := ih
    rw [f_A_fill11_l1_m_s] at hQ
    refine ⟨fun hc => ?_, fun hc => ?_⟩
    · simp only [if_pos hc] at hQ
      exact hQ
    · simp only [if_neg hc] at hQ
      have hok := hok.2 hc
      refine ⟨hok.1, ?_⟩
      have hok := hok.2
      intro M3 h_; subst h_
      have hok := hok _ rfl
      intro x4 h_; subst h_
      have hok := hok _ rfl
      exact hK1 _ _  hok hQ
def f_A_fill11_m (M0 : Mem) (a2 : Int32) : Mem := (f_A_fill11_l1_m a2 1025 (0 : Int32) M0)
def ok_A_fill11 (M0 : Mem) (a2 : Int32) : Prop := ok_A_fill11_l1 a2 1025 (0 : Int32) M0
set_option maxRecDepth 100000 in
set_option maxHeartbeats 4000000 in
theorem sp_A_fill11 (M0 : Mem) (a2 : Int32) (Q : Mem → Prop) (hok : ok_A_fill11 M0 a2) (hQ : Q (f_A_fill11_m M0 a2)) : wp_A_fill11 M0 a2 Q := by
  unfold wp_A_fill11
  unfold ok_A_fill11 at hok
  unfold f_A_fill11_m at hQ
  exact ⟨_, sp_A_fill11_l1 _ _ _ _  hok hQ⟩
def f_A_fill12_l1_m (a2 : Int32) (n : Nat) : Int32 → Mem → Mem := Nat.rec (motive := fun _ => Int32 → Mem → Mem) (fun _ _ => (fun _ _ => 0)) (fun _ K1_m x1 M2 => (if (128 : Int32) ≤ x1 then M2 else let M3 : Mem := mst M2 12 x1.toNatClampNeg a2; let x4 : Int32 := x1 + (1 : Int32); (K1_m x4 M3))) n
theorem f_A_fill12_l1_m_s (a2 : Int32) (n : Nat) (x1 : Int32) (M2 : Mem) : f_A_fill12_l1_m a2 (n + 1) x1 M2 = (let K1_m : Int32 → Mem → Mem := f_A_fill12_l1_m a2 n; (if (128 : Int32) ≤ x1 then M2 else let M3 : Mem := mst M2 12 x1.toNatClampNeg a2; let x4 : Int32 := x1 + (1 : Int32); (K1_m x4 M3))) := rfl
def ok_A_fill12_l1 (a2 : Int32) (n : Nat) : Int32 → Mem → Prop := Nat.rec (motive := fun _ => Int32 → Mem → Prop) (fun _ _ => False) (fun _ K1_ok x1 M2 => ((((128 : Int32) ≤ x1) → True) ∧ ((¬ (128 : Int32) ≤ x1) → vp_in x1 128 ∧ (∀ M3 : Mem, M3 = mst M2 12 x1.toNatClampNeg a2 → ∀ x4 : Int32, x4 = x1 + (1 : Int32) → K1_ok x4 M3)))) n
set_option maxRecDepth 100000 in
set_option maxHeartbeats 4000000 in
theorem sp_A_fill12_l1 (a2 : Int32) {Q : Mem → Prop} : ∀ (n : Nat) (x1 : Int32) (M2 : Mem), ok_A_fill12_l1 a2 n x1 M2 → Q (f_A_fill12_l1_m a2 n x1 M2) → wp_A_fill12_l1 a2 Q n x1 M2 := by
  intro n
  induction n with
  | zero => intro x1 M2 hok; exact False.elim hok
  | succ n ih =>
    intro x1 M2 hok hQ
    have hK1 := ih
    rw [f_A_fill12_l1_m_s] at hQ
    refine ⟨fun hc => ?_, fun hc => ?_⟩
    · simp only [if_pos hc] at hQ
      exact hQ
    · simp only [if_neg hc] at hQ
      have hok := hok.2 hc
      refine ⟨hok.1, ?_⟩
      have hok := hok.2
      intro M3 h_; subst h_
      have hok := hok _ rfl
      intro x4 h_; subst h_
      have hok := hok _ rfl
      exact hK1 _ _  hok hQ
def f_A_fill12_m (M0 : Mem) (a2 : Int32) : Mem := (f_A_fill12_l1_m a2 129 (0 : Int32) M0)
def ok_A_fill12 (M0 : Mem) (a2 : Int32) : Prop := ok_A_fill12_l1 a2 129 (0 : Int32) M0
set_option maxRecDepth 100000 in
set_option maxHeartbeats 4000000 in
theorem sp_A_fill12 (M0 : Mem) (a2 : Int32) (Q : Mem → Prop) (hok : ok_A_fill12 M0 a2) (hQ : Q (f_A_fill12_m M0 a2)) : wp_A_fill12 M0 a2 Q := by
  unfold wp_A_fill12
  unfold ok_A_fill12 at hok
  unfold f_A_fill12_m at hQ
  exact ⟨_, sp_A_fill12_l1 _ _ _ _  hok hQ⟩
def f_Y_reset_m (M0 : Mem) : Mem := let M1 : Mem := f_A_fill9_m M0 (0 : Int32); let M2 : Mem := f_A_fill10_m M1 (0 : Int32); let M3 : Mem := f_A_fill11_m M2 (0 : Int32); let M4 : Mem := f_A_fill12_m M3 (0 : Int32); M4
def ok_Y_reset (M0 : Mem) : Prop := ok_A_fill9 M0 (0 : Int32) ∧ (∀ M1 : Mem, M1 = f_A_fill9_m M0 (0 : Int32) → ok_A_fill10 M1 (0 : Int32) ∧ (∀ M2 : Mem, M2 = f_A_fill10_m M1 (0 : Int32) → ok_A_fill11 M2 (0 : Int32) ∧ (∀ M3 : Mem, M3 = f_A_fill11_m M2 (0 : Int32) → ok_A_fill12 M3 (0 : Int32))))
set_option maxRecDepth 100000 in
set_option maxHeartbeats 4000000 in
theorem sp_Y_reset (M0 : Mem) (Q : Mem → Prop) (hok : ok_Y_reset M0) (hQ : Q (f_Y_reset_m M0)) : wp_Y_reset M0 Q := by
  unfold wp_Y_reset
  unfold ok_Y_reset at hok
  unfold f_Y_reset_m at hQ
  refine sp_A_fill9 _ _ _ hok.1 ?_
  have hok := hok.2 _ rfl
  refine sp_A_fill10 _ _ _ hok.1 ?_
  have hok := hok.2 _ rfl
  refine sp_A_fill11 _ _ _ hok.1 ?_
  have hok := hok.2 _ rfl
  refine sp_A_fill12 _ _ _ hok ?_
  exact hQ
def f_A_fill13_l1_m (a2 : Int32) (n : Nat) : Int32 → Mem → Mem := Nat.rec (motive := fun _ => Int32 → Mem → Mem) (fun _ _ => (fun _ _ => 0)) (fun _ K1_m x1 M2 => (if (160 : Int32) ≤ x1 then M2 else let M3 : Mem := mst M2 13 x1.toNatClampNeg a2; let x4 : Int32 := x1 + (1 : Int32); (K1_m x4 M3))) n
theorem f_A_fill13_l1_m_s (a2 : Int32) (n : Nat) (x1 : Int32) (M2 : Mem) : f_A_fill13_l1_m a2 (n + 1) x1 M2 = (let K1_m : Int32 → Mem → Mem := f_A_fill13_l1_m a2 n; (if (160 : Int32) ≤ x1 then M2 else let M3 : Mem := mst M2 13 x1.toNatClampNeg a2; let x4 : Int32 := x1 + (1 : Int32); (K1_m x4 M3))) := rfl
def ok_A_fill13_l1 (a2 : Int32) (n : Nat) : Int32 → Mem → Prop := Nat.rec (motive := fun _ => Int32 → Mem → Prop) (fun _ _ => False) (fun _ K1_ok x1 M2 => ((((160 : Int32) ≤ x1) → True) ∧ ((¬ (160 : Int32) ≤ x1) → vp_in x1 160 ∧ (∀ M3 : Mem, M3 = mst M2 13 x1.toNatClampNeg a2 → ∀ x4 : Int32, x4 = x1 + (1 : Int32) → K1_ok x4 M3)))) n
set_option maxRecDepth 100000 in
set_option maxHeartbeats 4000000 in
theorem sp_A_fill13_l1 (a2 : Int32) {Q : Mem → Prop} : ∀ (n : Nat) (x1 : Int32) (M2 : Mem), ok_A_fill13_l1 a2 n x1 M2 → Q (f_A_fill13_l1_m a2 n x1 M2) → wp_A_fill13_l1 a2 Q n x1 M2 := by
  intro n
  induction n with
  | zero => intro x1 M2 hok; exact False.elim hok
  | succ n ih =>
    intro x1 M2 hok hQ
    have hK1 := ih
    rw [f_A_fill13_l1_m_s] at hQ
    refine ⟨fun hc => ?_, fun hc => ?_⟩
    · simp only [if_pos hc] at hQ
      exact hQ
    · simp only [if_neg hc] at hQ
      have hok := hok.2 hc
      refine ⟨hok.1, ?_⟩
      have hok := hok.2
      intro M3 h_; subst h_
      have hok := hok _ rfl
      intro x4 h_; subst h_
      have hok := hok _ rfl
      exact hK1 _ _  hok hQ
def f_A_fill13_m (M0 : Mem) (a2 : Int32) : Mem := (f_A_fill13_l1_m a2 161 (0 : Int32) M0)
def ok_A_fill13 (M0 : Mem) (a2 : Int32) : Prop := ok_A_fill13_l1 a2 161 (0 : Int32) M0
set_option maxRecDepth 100000 in
set_option maxHeartbeats 4000000 in
theorem sp_A_fill13 (M0 : Mem) (a2 : Int32) (Q : Mem → Prop) (hok : ok_A_fill13 M0 a2) (hQ : Q (f_A_fill13_m M0 a2)) : wp_A_fill13 M0 a2 Q := by
  unfold wp_A_fill13
  unfold ok_A_fill13 at hok
  unfold f_A_fill13_m at hQ
  exact ⟨_, sp_A_fill13_l1 _ _ _ _  hok hQ⟩
def f_S_reset_m (M0 : Mem) : Mem := let M1 : Mem := f_A_fill13_m M0 (0 : Int32); M1
def ok_S_reset (M0 : Mem) : Prop := ok_A_fill13 M0 (0 : Int32)
set_option maxRecDepth 100000 in
set_option maxHeartbeats 4000000 in
theorem sp_S_reset (M0 : Mem) (Q : Mem → Prop) (hok : ok_S_reset M0) (hQ : Q (f_S_reset_m M0)) : wp_S_reset M0 Q := by
  unfold wp_S_reset
  unfold ok_S_reset at hok
  unfold f_S_reset_m at hQ
  refine sp_A_fill13 _ _ _ hok ?_
  exact hQ
def f_Q_setPair_j1_m (M5 : Mem) : Mem := M5
set_option maxRecDepth 100000 in
set_option maxHeartbeats 4000000 in
theorem sp_Q_setPair_j1 (M5 : Mem) (Q : Mem → Prop) (hQ : Q (f_Q_setPair_j1_m M5)) : wp_Q_setPair_j1 M5 Q := by
  unfold wp_Q_setPair_j1
  unfold f_Q_setPair_j1_m at hQ
  exact hQ
def f_Q_setPair_m (M0 : Mem) (a1 : Int32) (a2 : Int32) : Mem := (if a1 = (3 : Int32) then let M8 : Mem := mst M0 5 7 (a2 &&& (65535 : Int32)); (f_Q_setPair_j1_m M8) else let M6 : Mem := mst M0 17 ((((2 : Int32) * a1) &&& (7 : Int32))).toNatClampNeg ((a2 >>> ((8 : Int32) &&& (31 : Int32))) &&& (255 : Int32)); let M7 : Mem := mst M6 17 (((((2 : Int32) * a1) + (1 : Int32)) &&& (7 : Int32))).toNatClampNeg (a2 &&& (255 : Int32)); (f_Q_setPair_j1_m M7))
def ok_Q_setPair (M0 : Mem) (a1 : Int32) (a2 : Int32) : Prop := (((¬ a1 = (3 : Int32)) → vp_in (((2 : Int32) * a1) &&& (7 : Int32)) 8 ∧ (∀ M6 : Mem, M6 = mst M0 17 ((((2 : Int32) * a1) &&& (7 : Int32))).toNatClampNeg ((a2 >>> ((8 : Int32) &&& (31 : Int32))) &&& (255 : Int32)) → vp_in ((((2 : Int32) * a1) + (1 : Int32)) &&& (7 : Int32)) 8)) ∧ ((a1 = (3 : Int32)) → True))
set_option maxRecDepth 100000 in
set_option maxHeartbeats 4000000 in
theorem sp_Q_setPair (M0 : Mem) (a1 : Int32) (a2 : Int32) (Q : Mem → Prop) (hok : ok_Q_setPair M0 a1 a2) (hQ : Q (f_Q_setPair_m M0 a1 a2)) : wp_Q_setPair M0 a1 a2 Q := by
  unfold wp_Q_setPair
  unfold ok_Q_setPair at hok
  unfold f_Q_setPair_m at hQ
  refine ⟨fun hc => ?_, fun hc => ?_⟩
  · simp only [if_neg hc] at hQ
    have hok := hok.1 hc
    refine ⟨hok.1, ?_⟩
    have hok := hok.2
    intro M6 h_; subst h_
    have hok := hok _ rfl
    refine ⟨hok, ?_⟩
    intro M7 h_; subst h_
    exact sp_Q_setPair_j1 _ _ hQ
  · simp only [if_pos hc] at hQ
    intro M8 h_; subst h_
    exact sp_Q_setPair_j1 _ _ hQ
def f_Q_reset_m (M0 : Mem) : Mem := let M1 : Mem := mst M0 17 7 (1 : Int32); let M2 : Mem := mst M1 17 6 (176 : Int32); let M3 : Mem := f_Q_setPair_m M2 (0 : Int32) (19 : Int32); let M4 : Mem := f_Q_setPair_m M3 (1 : Int32) (216 : Int32); let M5 : Mem := f_Q_setPair_m M4 (2 : Int32) (333 : Int32); let M6 : Mem := mst M5 5 7 (65534 : Int32); let M7 : Mem := mst M6 5 8 (256 : Int32); let M8 : Mem := mst M7 5 3 (0 : Int32); let M9 : Mem := mst M8 5 4 (0 : Int32); let M10 : Mem := mst M9 5 5 (0 : Int32); let M11 : Mem := mst M10 5 9 (0 : Int32); let M12 : Mem := mst M11 5 0 (0 : Int32); let M13 : Mem := mst M12 5 1 (0 : Int32); let M14 : Mem := mst M13 5 2 (0 : Int32); M14
def ok_Q_reset (M0 : Mem) : Prop := ∀ M1 : Mem, M1 = mst M0 17 7 (1 : Int32) → ∀ M2 : Mem, M2 = mst M1 17 6 (176 : Int32) → ok_Q_setPair M2 (0 : Int32) (19 : Int32) ∧ (∀ M3 : Mem, M3 = f_Q_setPair_m M2 (0 : Int32) (19 : Int32) → ok_Q_setPair M3 (1 : Int32) (216 : Int32) ∧ (∀ M4 : Mem, M4 = f_Q_setPair_m M3 (1 : Int32) (216 : Int32) → ok_Q_setPair M4 (2 : Int32) (333 : Int32)))
set_option maxRecDepth 100000 in
set_option maxHeartbeats 4000000 in
theorem sp_Q_reset (M0 : Mem) (Q : Mem → Prop) (hok : ok_Q_reset M0) (hQ : Q (f_Q_reset_m M0)) : wp_Q_reset M0 Q := by
  unfold wp_Q_reset
  unfold ok_Q_reset at hok
  unfold f_Q_reset_m at hQ
  intro M1 h_; subst h_
  have hok := hok _ rfl
  intro M2 h_; subst h_
  have hok := hok _ rfl
  refine sp_Q_setPair _ _ _ _ hok.1 ?_
  have hok := hok.2 _ rfl
  refine sp_Q_setPair _ _ _ _ hok.1 ?_
  have hok := hok.2 _ rfl
  refine sp_Q_setPair _ _ _ _ hok ?_
  intro M6 h_; subst h_
  intro M7 h_; subst h_
  intro M8 h_; subst h_
  intro M9 h_; subst h_
  intro M10 h_; subst h_
  intro M11 h_; subst h_
  intro M12 h_; subst h_
  intro M13 h_; subst h_
  intro M14 h_; subst h_
  exact hQ
def f_T_startAnew_m (M0 : Mem) : Mem := let M1 : Mem := f_K_reset_m M0; let M2 : Mem := f_P_reset_m M1; let M3 : Mem := f_Y_reset_m M2; let M4 : Mem := f_S_reset_m M3; let M5 : Mem := f_Q_reset_m M4; M5
def ok_T_startAnew (M0 : Mem) : Prop := ok_K_reset M0 ∧ (∀ M1 : Mem, M1 = f_K_reset_m M0 → ok_P_reset M1 ∧ (∀ M2 : Mem, M2 = f_P_reset_m M1 → ok_Y_reset M2 ∧ (∀ M3 : Mem, M3 = f_Y_reset_m M2 → ok_S_reset M3 ∧ (∀ M4 : Mem, M4 = f_S_reset_m M3 → ok_Q_reset M4))))
set_option maxRecDepth 100000 in
set_option maxHeartbeats 4000000 in
theorem sp_T_startAnew (M0 : Mem) (Q : Mem → Prop) (hok : ok_T_startAnew M0) (hQ : Q (f_T_startAnew_m M0)) : wp_T_startAnew M0 Q := by
  unfold wp_T_startAnew
  unfold ok_T_startAnew at hok
  unfold f_T_startAnew_m at hQ
  refine sp_K_reset _ _ hok.1 ?_
  have hok := hok.2 _ rfl
  refine sp_P_reset _ _ hok.1 ?_
  have hok := hok.2 _ rfl
  refine sp_Y_reset _ _ hok.1 ?_
  have hok := hok.2 _ rfl
  refine sp_S_reset _ _ hok.1 ?_
  have hok := hok.2 _ rfl
  refine sp_Q_reset _ _ hok ?_
  exact hQ
def f_T_octetOf_v (M0 : Mem) (a1 : Int64) (a2 : Int32) : Int32 := (((a1.toUInt64 >>> (((8 : Int32) * a2).toInt64.toUInt64 &&& Int64.toUInt64 63)).toInt64.toInt32) &&& (255 : Int32))
set_option maxRecDepth 100000 in
set_option maxHeartbeats 4000000 in
theorem sp_T_octetOf (M0 : Mem) (a1 : Int64) (a2 : Int32) (Q : Int32 → Prop) (hQ : Q (f_T_octetOf_v M0 a1 a2)) : wp_T_octetOf M0 a1 a2 Q := by
  unfold wp_T_octetOf
  unfold f_T_octetOf_v at hQ
  exact hQ
def f_K_headerAgrees_j1_v (x4 : Int32) : Int32 := x4
def ok_K_headerAgrees_j1 (x4 : Int32) : Prop := isB x4
set_option maxRecDepth 100000 in
set_option maxHeartbeats 4000000 in
theorem sp_K_headerAgrees_j1 (x4 : Int32) (Q : Int32 → Prop) (hok : ok_K_headerAgrees_j1 x4) (hQ : Q (f_K_headerAgrees_j1_v x4)) : wp_K_headerAgrees_j1 x4 Q := by
  unfold wp_K_headerAgrees_j1
  unfold ok_K_headerAgrees_j1 at hok
  unfold f_K_headerAgrees_j1_v at hQ
  refine ⟨hok, ?_⟩
  exact hQ
def f_K_headerAgrees_l1_v (M0 : Mem) (n : Nat) : Int32 → Int32 → Int32 := Nat.rec (motive := fun _ => Int32 → Int32 → Int32) (fun _ _ => 0) (fun _ K1_v x1 x2 => (if (333 : Int32) ≤ x2 then (if (x1 &&& (255 : Int32)) = (M0 6 333) then (f_K_headerAgrees_j1_v (1 : Int32)) else (f_K_headerAgrees_j1_v (0 : Int32))) else let x5 : Int32 := ((x1 - (M0 6 x2.toNatClampNeg)) - (1 : Int32)); let x6 : Int32 := x2 + (1 : Int32); (K1_v x5 x6))) n
theorem f_K_headerAgrees_l1_v_s (M0 : Mem) (n : Nat) (x1 : Int32) (x2 : Int32) : f_K_headerAgrees_l1_v M0 (n + 1) x1 x2 = (let K1_v : Int32 → Int32 → Int32 := f_K_headerAgrees_l1_v M0 n; (if (333 : Int32) ≤ x2 then (if (x1 &&& (255 : Int32)) = (M0 6 333) then (f_K_headerAgrees_j1_v (1 : Int32)) else (f_K_headerAgrees_j1_v (0 : Int32))) else let x5 : Int32 := ((x1 - (M0 6 x2.toNatClampNeg)) - (1 : Int32)); let x6 : Int32 := x2 + (1 : Int32); (K1_v x5 x6))) := rfl
def ok_K_headerAgrees_l1 (M0 : Mem) (n : Nat) : Int32 → Int32 → Prop := Nat.rec (motive := fun _ => Int32 → Int32 → Prop) (fun _ _ => False) (fun _ K1_ok x1 x2 => ((((333 : Int32) ≤ x2) → (((¬ (x1 &&& (255 : Int32)) = (M0 6 333)) → ok_K_headerAgrees_j1 (0 : Int32)) ∧ (((x1 &&& (255 : Int32)) = (M0 6 333)) → ok_K_headerAgrees_j1 (1 : Int32)))) ∧ ((¬ (333 : Int32) ≤ x2) → vp_in x2 8192 ∧ (∀ x5 : Int32, x5 = ((x1 - (M0 6 x2.toNatClampNeg)) - (1 : Int32)) → ∀ x6 : Int32, x6 = x2 + (1 : Int32) → K1_ok x5 x6)))) n
set_option maxRecDepth 100000 in
set_option maxHeartbeats 4000000 in
theorem sp_K_headerAgrees_l1 (M0 : Mem) {Q : Int32 → Prop} : ∀ (n : Nat) (x1 : Int32) (x2 : Int32), ok_K_headerAgrees_l1 M0 n x1 x2 → Q (f_K_headerAgrees_l1_v M0 n x1 x2) → wp_K_headerAgrees_l1 M0 Q n x1 x2 := by
  intro n
  induction n with
  | zero => intro x1 x2 hok; exact False.elim hok
  | succ n ih =>
    intro x1 x2 hok hQ
    have hK1 := ih
    rw [f_K_headerAgrees_l1_v_s] at hQ
    refine ⟨fun hc => ?_, fun hc => ?_⟩
    · simp only [if_pos hc] at hQ
      have hok := hok.1 hc
      refine ⟨fun hc => ?_, fun hc => ?_⟩
      · simp only [if_neg hc] at hQ
        have hok := hok.1 hc
        exact sp_K_headerAgrees_j1 _ _ hok hQ
      · simp only [if_pos hc] at hQ
        have hok := hok.2 hc
        exact sp_K_headerAgrees_j1 _ _ hok hQ
    · simp only [if_neg hc] at hQ
      have hok := hok.2 hc
      refine ⟨hok.1, ?_⟩
      have hok := hok.2
      intro x5 h_; subst h_
      have hok := hok _ rfl
      intro x6 h_; subst h_
      have hok := hok _ rfl
      exact hK1 _ _  hok hQ
def f_K_headerAgrees_v (M0 : Mem) : Int32 := (f_K_headerAgrees_l1_v M0 26 (0 : Int32) (308 : Int32))
def ok_K_headerAgrees (M0 : Mem) : Prop := ok_K_headerAgrees_l1 M0 26 (0 : Int32) (308 : Int32)
set_option maxRecDepth 100000 in
set_option maxHeartbeats 4000000 in
theorem sp_K_headerAgrees (M0 : Mem) (Q : Int32 → Prop) (hok : ok_K_headerAgrees M0) (hQ : Q (f_K_headerAgrees_v M0)) : wp_K_headerAgrees M0 Q := by
  unfold wp_K_headerAgrees
  unfold ok_K_headerAgrees at hok
  unfold f_K_headerAgrees_v at hQ
  exact ⟨_, sp_K_headerAgrees_l1 _ _ _ _  hok hQ⟩
def f_P_waiting_v (M0 : Mem) : Int32 := (((M0 8 255) &&& (M0 8 15)) &&& (31 : Int32))
set_option maxRecDepth 100000 in
set_option maxHeartbeats 4000000 in
theorem sp_P_waiting (M0 : Mem) (Q : Int32 → Prop) (hQ : Q (f_P_waiting_v M0)) : wp_P_waiting M0 Q := by
  unfold wp_P_waiting
  unfold f_P_waiting_v at hQ
  exact hQ
def f_K_controlOne_j1_m (M12 : Mem) : Mem := M12
set_option maxRecDepth 100000 in
set_option maxHeartbeats 4000000 in
theorem sp_K_controlOne_j1 (M12 : Mem) (Q : Mem → Prop) (hQ : Q (f_K_controlOne_j1_m M12)) : wp_K_controlOne_j1 M12 Q := by
  unfold wp_K_controlOne_j1
  unfold f_K_controlOne_j1_m at hQ
  exact hQ
def f_K_controlOne_j2_m (M0 : Mem) (x17 : Int32) : Mem := let M18 : Mem := mst M0 1 8 x17; (f_K_controlOne_j1_m M18)
set_option maxRecDepth 100000 in
set_option maxHeartbeats 4000000 in
theorem sp_K_controlOne_j2 (M0 : Mem) (x17 : Int32) (Q : Mem → Prop) (hQ : Q (f_K_controlOne_j2_m M0 x17)) : wp_K_controlOne_j2 M0 x17 Q := by
  unfold wp_K_controlOne_j2
  unfold f_K_controlOne_j2_m at hQ
  intro M18 h_; subst h_
  exact sp_K_controlOne_j1 _ _ hQ
def f_K_controlOne_j3_m (M0 : Mem) (x21 : Int32) : Mem := let M22 : Mem := mst M0 1 7 x21; (f_K_controlOne_j1_m M22)
def ok_K_controlOne_j3 (M0 : Mem) (x21 : Int32) : Prop := isB x21
set_option maxRecDepth 100000 in
set_option maxHeartbeats 4000000 in
theorem sp_K_controlOne_j3 (M0 : Mem) (x21 : Int32) (Q : Mem → Prop) (hok : ok_K_controlOne_j3 M0 x21) (hQ : Q (f_K_controlOne_j3_m M0 x21)) : wp_K_controlOne_j3 M0 x21 Q := by
  unfold wp_K_controlOne_j3
  unfold ok_K_controlOne_j3 at hok
  unfold f_K_controlOne_j3_m at hQ
  refine ⟨hok, ?_⟩
  intro M22 h_; subst h_
  exact sp_K_controlOne_j1 _ _ hQ
def f_K_controlOne_m (M0 : Mem) (a1 : Int32) (a2 : Int32) : Mem := (if (8192 : Int32) ≤ a1 then (if (16384 : Int32) ≤ a1 then (if (24576 : Int32) ≤ a1 then let M13 : Mem := mst M0 1 10 (a2 &&& (1 : Int32)); (f_K_controlOne_j1_m M13) else let M14 : Mem := mst M0 1 9 (a2 &&& (3 : Int32)); (f_K_controlOne_j1_m M14)) else (if (a2 &&& (31 : Int32)) = 0 then (f_K_controlOne_j2_m M0 (1 : Int32)) else (f_K_controlOne_j2_m M0 (a2 &&& (31 : Int32))))) else (if (a2 &&& (15 : Int32)) = (10 : Int32) then (f_K_controlOne_j3_m M0 (1 : Int32)) else (f_K_controlOne_j3_m M0 (0 : Int32))))
def ok_K_controlOne (M0 : Mem) (a1 : Int32) (a2 : Int32) : Prop := ((((8192 : Int32) ≤ a1) → True) ∧ ((¬ (8192 : Int32) ≤ a1) → (((¬ (a2 &&& (15 : Int32)) = (10 : Int32)) → ok_K_controlOne_j3 M0 (0 : Int32)) ∧ (((a2 &&& (15 : Int32)) = (10 : Int32)) → ok_K_controlOne_j3 M0 (1 : Int32)))))
set_option maxRecDepth 100000 in
set_option maxHeartbeats 4000000 in
theorem sp_K_controlOne (M0 : Mem) (a1 : Int32) (a2 : Int32) (Q : Mem → Prop) (hok : ok_K_controlOne M0 a1 a2) (hQ : Q (f_K_controlOne_m M0 a1 a2)) : wp_K_controlOne M0 a1 a2 Q := by
  unfold wp_K_controlOne
  unfold ok_K_controlOne at hok
  unfold f_K_controlOne_m at hQ
  refine ⟨fun hc => ?_, fun hc => ?_⟩
  · simp only [if_pos hc] at hQ
    refine ⟨fun hc => ?_, fun hc => ?_⟩
    · simp only [if_pos hc] at hQ
      refine ⟨fun hc => ?_, fun hc => ?_⟩
      · simp only [if_pos hc] at hQ
        intro M13 h_; subst h_
        exact sp_K_controlOne_j1 _ _ hQ
      · simp only [if_neg hc] at hQ
        intro M14 h_; subst h_
        exact sp_K_controlOne_j1 _ _ hQ
    · simp only [if_neg hc] at hQ
      refine ⟨fun hc => ?_, fun hc => ?_⟩
      · simp only [if_neg hc] at hQ
        exact sp_K_controlOne_j2 _ _ _ hQ
      · simp only [if_pos hc] at hQ
        exact sp_K_controlOne_j2 _ _ _ hQ
  · simp only [if_neg hc] at hQ
    have hok := hok.2 hc
    refine ⟨fun hc => ?_, fun hc => ?_⟩
    · simp only [if_neg hc] at hQ
      have hok := hok.1 hc
      exact sp_K_controlOne_j3 _ _ _ hok hQ
    · simp only [if_pos hc] at hQ
      have hok := hok.2 hc
      exact sp_K_controlOne_j3 _ _ _ hok hQ
def f_K_controlTwo_j1_m (M10 : Mem) : Mem := M10
set_option maxRecDepth 100000 in
set_option maxHeartbeats 4000000 in
theorem sp_K_controlTwo_j1 (M10 : Mem) (Q : Mem → Prop) (hQ : Q (f_K_controlTwo_j1_m M10)) : wp_K_controlTwo_j1 M10 Q := by
  unfold wp_K_controlTwo_j1
  unfold f_K_controlTwo_j1_m at hQ
  exact hQ
def f_K_controlTwo_j2_m (M0 : Mem) (x13 : Int32) : Mem := let M14 : Mem := mst M0 1 8 x13; (f_K_controlTwo_j1_m M14)
set_option maxRecDepth 100000 in
set_option maxHeartbeats 4000000 in
theorem sp_K_controlTwo_j2 (M0 : Mem) (x13 : Int32) (Q : Mem → Prop) (hQ : Q (f_K_controlTwo_j2_m M0 x13)) : wp_K_controlTwo_j2 M0 x13 Q := by
  unfold wp_K_controlTwo_j2
  unfold f_K_controlTwo_j2_m at hQ
  intro M14 h_; subst h_
  exact sp_K_controlTwo_j1 _ _ hQ
def f_K_controlTwo_j3_m (M0 : Mem) (x17 : Int32) : Mem := let M18 : Mem := mst M0 1 7 x17; (f_K_controlTwo_j1_m M18)
def ok_K_controlTwo_j3 (M0 : Mem) (x17 : Int32) : Prop := isB x17
set_option maxRecDepth 100000 in
set_option maxHeartbeats 4000000 in
theorem sp_K_controlTwo_j3 (M0 : Mem) (x17 : Int32) (Q : Mem → Prop) (hok : ok_K_controlTwo_j3 M0 x17) (hQ : Q (f_K_controlTwo_j3_m M0 x17)) : wp_K_controlTwo_j3 M0 x17 Q := by
  unfold wp_K_controlTwo_j3
  unfold ok_K_controlTwo_j3 at hok
  unfold f_K_controlTwo_j3_m at hQ
  refine ⟨hok, ?_⟩
  intro M18 h_; subst h_
  exact sp_K_controlTwo_j1 _ _ hQ
def f_K_controlTwo_m (M0 : Mem) (a1 : Int32) (a2 : Int32) : Mem := (if a1 < (16384 : Int32) then (if (a1 &&& (256 : Int32)) = 0 then (if (a2 &&& (15 : Int32)) = (10 : Int32) then (f_K_controlTwo_j3_m M0 (1 : Int32)) else (f_K_controlTwo_j3_m M0 (0 : Int32))) else (if (a2 &&& (15 : Int32)) = 0 then (f_K_controlTwo_j2_m M0 (1 : Int32)) else (f_K_controlTwo_j2_m M0 (a2 &&& (15 : Int32))))) else M0)
def ok_K_controlTwo (M0 : Mem) (a1 : Int32) (a2 : Int32) : Prop := (((a1 < (16384 : Int32)) → (((¬ (a1 &&& (256 : Int32)) = 0) → True) ∧ (((a1 &&& (256 : Int32)) = 0) → (((¬ (a2 &&& (15 : Int32)) = (10 : Int32)) → ok_K_controlTwo_j3 M0 (0 : Int32)) ∧ (((a2 &&& (15 : Int32)) = (10 : Int32)) → ok_K_controlTwo_j3 M0 (1 : Int32)))))) ∧ ((¬ a1 < (16384 : Int32)) → True))
set_option maxRecDepth 100000 in
set_option maxHeartbeats 4000000 in
theorem sp_K_controlTwo (M0 : Mem) (a1 : Int32) (a2 : Int32) (Q : Mem → Prop) (hok : ok_K_controlTwo M0 a1 a2) (hQ : Q (f_K_controlTwo_m M0 a1 a2)) : wp_K_controlTwo M0 a1 a2 Q := by
  unfold wp_K_controlTwo
  unfold ok_K_controlTwo at hok
  unfold f_K_controlTwo_m at hQ
  refine ⟨fun hc => ?_, fun hc => ?_⟩
  · simp only [if_pos hc] at hQ
    have hok := hok.1 hc
    refine ⟨fun hc => ?_, fun hc => ?_⟩
    · simp only [if_neg hc] at hQ
      refine ⟨fun hc => ?_, fun hc => ?_⟩
      · simp only [if_neg hc] at hQ
        exact sp_K_controlTwo_j2 _ _ _ hQ
      · simp only [if_pos hc] at hQ
        exact sp_K_controlTwo_j2 _ _ _ hQ
    · simp only [if_pos hc] at hQ
      have hok := hok.2 hc
      refine ⟨fun hc => ?_, fun hc => ?_⟩
      · simp only [if_neg hc] at hQ
        have hok := hok.1 hc
        exact sp_K_controlTwo_j3 _ _ _ hok hQ
      · simp only [if_pos hc] at hQ
        have hok := hok.2 hc
        exact sp_K_controlTwo_j3 _ _ _ hok hQ
  · simp only [if_neg hc] at hQ
    exact hQ
def f_K_controlThree_j1_m (M9 : Mem) : Mem := M9
set_option maxRecDepth 100000 in
set_option maxHeartbeats 4000000 in
theorem sp_K_controlThree_j1 (M9 : Mem) (Q : Mem → Prop) (hQ : Q (f_K_controlThree_j1_m M9)) : wp_K_controlThree_j1 M9 Q := by
  unfold wp_K_controlThree_j1
  unfold f_K_controlThree_j1_m at hQ
  exact hQ
def f_K_controlThree_j2_m (M0 : Mem) (x15 : Int32) : Mem := let M16 : Mem := mst M0 1 7 x15; (f_K_controlThree_j1_m M16)
def ok_K_controlThree_j2 (M0 : Mem) (x15 : Int32) : Prop := isB x15
set_option maxRecDepth 100000 in
set_option maxHeartbeats 4000000 in
theorem sp_K_controlThree_j2 (M0 : Mem) (x15 : Int32) (Q : Mem → Prop) (hok : ok_K_controlThree_j2 M0 x15) (hQ : Q (f_K_controlThree_j2_m M0 x15)) : wp_K_controlThree_j2 M0 x15 Q := by
  unfold wp_K_controlThree_j2
  unfold ok_K_controlThree_j2 at hok
  unfold f_K_controlThree_j2_m at hQ
  refine ⟨hok, ?_⟩
  intro M16 h_; subst h_
  exact sp_K_controlThree_j1 _ _ hQ
def f_K_controlThree_m (M0 : Mem) (a1 : Int32) (a2 : Int32) : Mem := (if (8192 : Int32) ≤ a1 then (if (12288 : Int32) ≤ a1 then (if (16384 : Int32) ≤ a1 then (if (24576 : Int32) ≤ a1 then (f_K_controlThree_j1_m M0) else let M10 : Mem := mst M0 1 9 (a2 &&& (3 : Int32)); (f_K_controlThree_j1_m M10)) else let M11 : Mem := mst M0 1 8 (((M0 1 8) &&& (255 : Int32)) ||| ((a2 &&& (1 : Int32)) <<< ((8 : Int32) &&& (31 : Int32)))); (f_K_controlThree_j1_m M11)) else let M12 : Mem := mst M0 1 8 (((M0 1 8) &&& (256 : Int32)) ||| a2); (f_K_controlThree_j1_m M12)) else (if (a2 &&& (15 : Int32)) = (10 : Int32) then (f_K_controlThree_j2_m M0 (1 : Int32)) else (f_K_controlThree_j2_m M0 (0 : Int32))))
def ok_K_controlThree (M0 : Mem) (a1 : Int32) (a2 : Int32) : Prop := ((((8192 : Int32) ≤ a1) → True) ∧ ((¬ (8192 : Int32) ≤ a1) → (((¬ (a2 &&& (15 : Int32)) = (10 : Int32)) → ok_K_controlThree_j2 M0 (0 : Int32)) ∧ (((a2 &&& (15 : Int32)) = (10 : Int32)) → ok_K_controlThree_j2 M0 (1 : Int32)))))
set_option maxRecDepth 100000 in
set_option maxHeartbeats 4000000 in
theorem sp_K_controlThree (M0 : Mem) (a1 : Int32) (a2 : Int32) (Q : Mem → Prop) (hok : ok_K_controlThree M0 a1 a2) (hQ : Q (f_K_controlThree_m M0 a1 a2)) : wp_K_controlThree M0 a1 a2 Q := by
  unfold wp_K_controlThree
  unfold ok_K_controlThree at hok
  unfold f_K_controlThree_m at hQ
  refine ⟨fun hc => ?_, fun hc => ?_⟩
  · simp only [if_pos hc] at hQ
    refine ⟨fun hc => ?_, fun hc => ?_⟩
    · simp only [if_pos hc] at hQ
      refine ⟨fun hc => ?_, fun hc => ?_⟩
      · simp only [if_pos hc] at hQ
        refine ⟨fun hc => ?_, fun hc => ?_⟩
        · simp only [if_pos hc] at hQ
          exact sp_K_controlThree_j1 _ _ hQ
        · simp only [if_neg hc] at hQ
          intro M10 h_; subst h_
          exact sp_K_controlThree_j1 _ _ hQ
      · simp only [if_neg hc] at hQ
        intro M11 h_; subst h_
        exact sp_K_controlThree_j1 _ _ hQ
    · simp only [if_neg hc] at hQ
      intro M12 h_; subst h_
      exact sp_K_controlThree_j1 _ _ hQ
  · simp only [if_neg hc] at hQ
    have hok := hok.2 hc
    refine ⟨fun hc => ?_, fun hc => ?_⟩
    · simp only [if_neg hc] at hQ
      have hok := hok.1 hc
      exact sp_K_controlThree_j2 _ _ _ hok hQ
    · simp only [if_pos hc] at hQ
      have hok := hok.2 hc
      exact sp_K_controlThree_j2 _ _ _ hok hQ
def f_K_control_j1_m (M6 : Mem) : Mem := let M7 : Mem := f_K_settle_m M6; M7
def ok_K_control_j1 (M6 : Mem) : Prop := ok_K_settle M6
set_option maxRecDepth 100000 in
set_option maxHeartbeats 4000000 in
theorem sp_K_control_j1 (M6 : Mem) (Q : Mem → Prop) (hok : ok_K_control_j1 M6) (hQ : Q (f_K_control_j1_m M6)) : wp_K_control_j1 M6 Q := by
  unfold wp_K_control_j1
  unfold ok_K_control_j1 at hok
  unfold f_K_control_j1_m at hQ
  refine sp_K_settle _ _ hok ?_
  exact hQ
def f_K_control_m (M0 : Mem) (a1 : Int32) (a2 : Int32) : Mem := (if (M0 1 2) = 0 then M0 else (if ((M0 1 3) = (1 : Int32)) then let M8 : Mem := f_K_controlOne_m M0 a1 a2; (f_K_control_j1_m M8) else (if ((M0 1 3) = (2 : Int32)) then let M9 : Mem := f_K_controlTwo_m M0 a1 a2; (f_K_control_j1_m M9) else (if ((M0 1 3) = (3 : Int32)) then let M10 : Mem := f_K_controlThree_m M0 a1 a2; (f_K_control_j1_m M10) else (f_K_control_j1_m M0)))))
def ok_K_control (M0 : Mem) (a1 : Int32) (a2 : Int32) : Prop := (((¬ (M0 1 2) = 0) → (((((M0 1 3) = (1 : Int32))) → ok_K_controlOne M0 a1 a2 ∧ (∀ M8 : Mem, M8 = f_K_controlOne_m M0 a1 a2 → ok_K_control_j1 M8)) ∧ ((¬ ((M0 1 3) = (1 : Int32))) → (((((M0 1 3) = (2 : Int32))) → ok_K_controlTwo M0 a1 a2 ∧ (∀ M9 : Mem, M9 = f_K_controlTwo_m M0 a1 a2 → ok_K_control_j1 M9)) ∧ ((¬ ((M0 1 3) = (2 : Int32))) → (((((M0 1 3) = (3 : Int32))) → ok_K_controlThree M0 a1 a2 ∧ (∀ M10 : Mem, M10 = f_K_controlThree_m M0 a1 a2 → ok_K_control_j1 M10)) ∧ ((¬ ((M0 1 3) = (3 : Int32))) → ok_K_control_j1 M0))))))) ∧ (((M0 1 2) = 0) → True))
set_option maxRecDepth 100000 in
set_option maxHeartbeats 4000000 in
theorem sp_K_control (M0 : Mem) (a1 : Int32) (a2 : Int32) (Q : Mem → Prop) (hok : ok_K_control M0 a1 a2) (hQ : Q (f_K_control_m M0 a1 a2)) : wp_K_control M0 a1 a2 Q := by
  unfold wp_K_control
  unfold ok_K_control at hok
  unfold f_K_control_m at hQ
  refine ⟨fun hc => ?_, fun hc => ?_⟩
  · simp only [if_neg hc] at hQ
    have hok := hok.1 hc
    refine ⟨fun hc => ?_, fun hc => ?_⟩
    · simp only [if_pos hc] at hQ
      have hok := hok.1 hc
      refine sp_K_controlOne _ _ _ _ hok.1 ?_
      have hok := hok.2 _ rfl
      exact sp_K_control_j1 _ _ hok hQ
    · simp only [if_neg hc] at hQ
      have hok := hok.2 hc
      refine ⟨fun hc => ?_, fun hc => ?_⟩
      · simp only [if_pos hc] at hQ
        have hok := hok.1 hc
        refine sp_K_controlTwo _ _ _ _ hok.1 ?_
        have hok := hok.2 _ rfl
        exact sp_K_control_j1 _ _ hok hQ
      · simp only [if_neg hc] at hQ
        have hok := hok.2 hc
        refine ⟨fun hc => ?_, fun hc => ?_⟩
        · simp only [if_pos hc] at hQ
          have hok := hok.1 hc
          refine sp_K_controlThree _ _ _ _ hok.1 ?_
          have hok := hok.2 _ rfl
          exact sp_K_control_j1 _ _ hok hQ
        · simp only [if_neg hc] at hQ
          have hok := hok.2 hc
          exact sp_K_control_j1 _ _ hok hQ
  · simp only [if_pos hc] at hQ
    exact hQ
def f_K_storeRam_j1_m (M6 : Mem) : Mem := M6
set_option maxRecDepth 100000 in
set_option maxHeartbeats 4000000 in
theorem sp_K_storeRam_j1 (M6 : Mem) (Q : Mem → Prop) (hQ : Q (f_K_storeRam_j1_m M6)) : wp_K_storeRam_j1 M6 Q := by
  unfold wp_K_storeRam_j1
  unfold f_K_storeRam_j1_m at hQ
  exact hQ
def f_K_storeRam_j2_m (M0 : Mem) (a1 : Int32) (x9 : Int32) : Mem := let M10 : Mem := mst M0 7 ((((M0 1 6) * (256 : Int32)) + (a1 &&& (255 : Int32)))).toNatClampNeg x9; (f_K_storeRam_j1_m M10)
def ok_K_storeRam_j2 (M0 : Mem) (a1 : Int32) (x9 : Int32) : Prop := vp_in (((M0 1 6) * (256 : Int32)) + (a1 &&& (255 : Int32))) 1024
set_option maxRecDepth 100000 in
set_option maxHeartbeats 4000000 in
theorem sp_K_storeRam_j2 (M0 : Mem) (a1 : Int32) (x9 : Int32) (Q : Mem → Prop) (hok : ok_K_storeRam_j2 M0 a1 x9) (hQ : Q (f_K_storeRam_j2_m M0 a1 x9)) : wp_K_storeRam_j2 M0 a1 x9 Q := by
  unfold wp_K_storeRam_j2
  unfold ok_K_storeRam_j2 at hok
  unfold f_K_storeRam_j2_m at hQ
  refine ⟨hok, ?_⟩
  intro M10 h_; subst h_
  exact sp_K_storeRam_j1 _ _ hQ
def f_K_storeRam_m (M0 : Mem) (a1 : Int32) (a2 : Int32) : Mem := (if (M0 1 4) = 0 then (f_K_storeRam_j1_m M0) else (if (M0 1 3) = (2 : Int32) then (f_K_storeRam_j2_m M0 a1 (a2 &&& (15 : Int32))) else (f_K_storeRam_j2_m M0 a1 a2)))
def ok_K_storeRam (M0 : Mem) (a1 : Int32) (a2 : Int32) : Prop := ((((M0 1 4) = 0) → True) ∧ ((¬ (M0 1 4) = 0) → (((¬ (M0 1 3) = (2 : Int32)) → ok_K_storeRam_j2 M0 a1 a2) ∧ (((M0 1 3) = (2 : Int32)) → ok_K_storeRam_j2 M0 a1 (a2 &&& (15 : Int32))))))
set_option maxRecDepth 100000 in
set_option maxHeartbeats 4000000 in
theorem sp_K_storeRam (M0 : Mem) (a1 : Int32) (a2 : Int32) (Q : Mem → Prop) (hok : ok_K_storeRam M0 a1 a2) (hQ : Q (f_K_storeRam_m M0 a1 a2)) : wp_K_storeRam M0 a1 a2 Q := by
  unfold wp_K_storeRam
  unfold ok_K_storeRam at hok
  unfold f_K_storeRam_m at hQ
  refine ⟨fun hc => ?_, fun hc => ?_⟩
  · simp only [if_pos hc] at hQ
    exact sp_K_storeRam_j1 _ _ hQ
  · simp only [if_neg hc] at hQ
    have hok := hok.2 hc
    refine ⟨fun hc => ?_, fun hc => ?_⟩
    · simp only [if_neg hc] at hQ
      have hok := hok.1 hc
      exact sp_K_storeRam_j2 _ _ _ _ hok hQ
    · simp only [if_pos hc] at hQ
      have hok := hok.2 hc
      exact sp_K_storeRam_j2 _ _ _ _ hok hQ
def f_P_clearDivider_m (M0 : Mem) : Mem := let M1 : Mem := mst M0 2 3 (0 : Int32); M1
set_option maxRecDepth 100000 in
set_option maxHeartbeats 4000000 in
theorem sp_P_clearDivider (M0 : Mem) (Q : Mem → Prop) (hQ : Q (f_P_clearDivider_m M0)) : wp_P_clearDivider M0 Q := by
  unfold wp_P_clearDivider
  unfold f_P_clearDivider_m at hQ
  intro M1 h_; subst h_
  exact hQ
def f_P_store_j1_m (M10 : Mem) : Mem := M10
set_option maxRecDepth 100000 in
set_option maxHeartbeats 4000000 in
theorem sp_P_store_j1 (M10 : Mem) (Q : Mem → Prop) (hQ : Q (f_P_store_j1_m M10)) : wp_P_store_j1 M10 Q := by
  unfold wp_P_store_j1
  unfold f_P_store_j1_m at hQ
  exact hQ
def f_P_store_m (M0 : Mem) (a1 : Int32) (a2 : Int32) : Mem := (if (a1 = (0 : Int32)) then let M11 : Mem := mst M0 8 0 (a2 &&& (48 : Int32)); (f_P_store_j1_m M11) else (if (a1 = (4 : Int32)) then let M12 : Mem := f_P_clearDivider_m M0; (f_P_store_j1_m M12) else (if (a1 = (7 : Int32)) then let M13 : Mem := mst M0 8 7 (a2 &&& (7 : Int32)); (f_P_store_j1_m M13) else (if (a1 = (15 : Int32)) then let M14 : Mem := mst M0 8 15 (a2 &&& (31 : Int32)); (f_P_store_j1_m M14) else (if (a1 = (64 : Int32)) then let M15 : Mem := mst M0 8 64 a2; let M16 : Mem := f_P_findState_m M15; (f_P_store_j1_m M16) else (if (a1 = (65 : Int32)) then let M17 : Mem := mst M0 8 65 (a2 &&& (120 : Int32)); (f_P_store_j1_m M17) else let M18 : Mem := mst M0 8 ((a1 &&& (255 : Int32))).toNatClampNeg a2; (f_P_store_j1_m M18)))))))
def ok_P_store (M0 : Mem) (a1 : Int32) (a2 : Int32) : Prop := ((((a1 = (0 : Int32))) → True) ∧ ((¬ (a1 = (0 : Int32))) → ((((a1 = (4 : Int32))) → True) ∧ ((¬ (a1 = (4 : Int32))) → ((((a1 = (7 : Int32))) → True) ∧ ((¬ (a1 = (7 : Int32))) → ((((a1 = (15 : Int32))) → True) ∧ ((¬ (a1 = (15 : Int32))) → ((((a1 = (64 : Int32))) → True) ∧ ((¬ (a1 = (64 : Int32))) → ((((a1 = (65 : Int32))) → True) ∧ ((¬ (a1 = (65 : Int32))) → vp_in (a1 &&& (255 : Int32)) 256))))))))))))
set_option maxRecDepth 100000 in
set_option maxHeartbeats 4000000 in
theorem sp_P_store (M0 : Mem) (a1 : Int32) (a2 : Int32) (Q : Mem → Prop) (hok : ok_P_store M0 a1 a2) (hQ : Q (f_P_store_m M0 a1 a2)) : wp_P_store M0 a1 a2 Q := by
  unfold wp_P_store
  unfold ok_P_store at hok
  unfold f_P_store_m at hQ
  refine ⟨fun hc => ?_, fun hc => ?_⟩
  · simp only [if_pos hc] at hQ
    intro M11 h_; subst h_
    exact sp_P_store_j1 _ _ hQ
  · simp only [if_neg hc] at hQ
    have hok := hok.2 hc
    refine ⟨fun hc => ?_, fun hc => ?_⟩
    · simp only [if_pos hc] at hQ
      refine sp_P_clearDivider _ _ ?_
      exact sp_P_store_j1 _ _ hQ
    · simp only [if_neg hc] at hQ
      have hok := hok.2 hc
      refine ⟨fun hc => ?_, fun hc => ?_⟩
      · simp only [if_pos hc] at hQ
        intro M13 h_; subst h_
        exact sp_P_store_j1 _ _ hQ
      · simp only [if_neg hc] at hQ
        have hok := hok.2 hc
        refine ⟨fun hc => ?_, fun hc => ?_⟩
        · simp only [if_pos hc] at hQ
          intro M14 h_; subst h_
          exact sp_P_store_j1 _ _ hQ
        · simp only [if_neg hc] at hQ
          have hok := hok.2 hc
          refine ⟨fun hc => ?_, fun hc => ?_⟩
          · simp only [if_pos hc] at hQ
            intro M15 h_; subst h_
            refine sp_P_findState _ _ ?_
            exact sp_P_store_j1 _ _ hQ
          · simp only [if_neg hc] at hQ
            have hok := hok.2 hc
            refine ⟨fun hc => ?_, fun hc => ?_⟩
            · simp only [if_pos hc] at hQ
              intro M17 h_; subst h_
              exact sp_P_store_j1 _ _ hQ
            · simp only [if_neg hc] at hQ
              have hok := hok.2 hc
              refine ⟨hok, ?_⟩
              intro M18 h_; subst h_
              exact sp_P_store_j1 _ _ hQ
def f_K_loadRom_j1_v (M0 : Mem) (a1 : Int32) (x2 : Int32) : Int32 := (M0 6 (((x2 * (1024 : Int32)) + (a1 &&& (1023 : Int32)))).toNatClampNeg)
def ok_K_loadRom_j1 (M0 : Mem) (a1 : Int32) (x2 : Int32) : Prop := vp_in ((x2 * (1024 : Int32)) + (a1 &&& (1023 : Int32))) 8192
set_option maxRecDepth 100000 in
set_option maxHeartbeats 4000000 in
theorem sp_K_loadRom_j1 (M0 : Mem) (a1 : Int32) (x2 : Int32) (Q : Int32 → Prop) (hok : ok_K_loadRom_j1 M0 a1 x2) (hQ : Q (f_K_loadRom_j1_v M0 a1 x2)) : wp_K_loadRom_j1 M0 a1 x2 Q := by
  unfold wp_K_loadRom_j1
  unfold ok_K_loadRom_j1 at hok
  unfold f_K_loadRom_j1_v at hQ
  refine ⟨hok, ?_⟩
  exact hQ
def f_K_loadRom_v (M0 : Mem) (a1 : Int32) : Int32 := (if (16384 : Int32) ≤ a1 then (f_K_loadRom_j1_v M0 a1 (M0 1 5)) else (f_K_loadRom_j1_v M0 a1 (0 : Int32)))
def ok_K_loadRom (M0 : Mem) (a1 : Int32) : Prop := ((((16384 : Int32) ≤ a1) → ok_K_loadRom_j1 M0 a1 (M0 1 5)) ∧ ((¬ (16384 : Int32) ≤ a1) → ok_K_loadRom_j1 M0 a1 (0 : Int32)))
set_option maxRecDepth 100000 in
set_option maxHeartbeats 4000000 in
theorem sp_K_loadRom (M0 : Mem) (a1 : Int32) (Q : Int32 → Prop) (hok : ok_K_loadRom M0 a1) (hQ : Q (f_K_loadRom_v M0 a1)) : wp_K_loadRom M0 a1 Q := by
  unfold wp_K_loadRom
  unfold ok_K_loadRom at hok
  unfold f_K_loadRom_v at hQ
  refine ⟨fun hc => ?_, fun hc => ?_⟩
  · simp only [if_pos hc] at hQ
    have hok := hok.1 hc
    exact sp_K_loadRom_j1 _ _ _ _ hok hQ
  · simp only [if_neg hc] at hQ
    have hok := hok.2 hc
    exact sp_K_loadRom_j1 _ _ _ _ hok hQ
def f_K_loadRam_j1_v (x3 : Int32) : Int32 := x3
set_option maxRecDepth 100000 in
set_option maxHeartbeats 4000000 in
theorem sp_K_loadRam_j1 (x3 : Int32) (Q : Int32 → Prop) (hQ : Q (f_K_loadRam_j1_v x3)) : wp_K_loadRam_j1 x3 Q := by
  unfold wp_K_loadRam_j1
  unfold f_K_loadRam_j1_v at hQ
  exact hQ
def f_K_loadRam_v (M0 : Mem) (a1 : Int32) : Int32 := (if (M0 1 4) = 0 then (255 : Int32) else let x1 : Int32 := (M0 7 ((((M0 1 6) * (256 : Int32)) + (a1 &&& (255 : Int32)))).toNatClampNeg); (if (M0 1 3) = (2 : Int32) then (f_K_loadRam_j1_v (x1 ||| (240 : Int32))) else (f_K_loadRam_j1_v x1)))
def ok_K_loadRam (M0 : Mem) (a1 : Int32) : Prop := (((¬ (M0 1 4) = 0) → vp_in (((M0 1 6) * (256 : Int32)) + (a1 &&& (255 : Int32))) 1024) ∧ (((M0 1 4) = 0) → True))
set_option maxRecDepth 100000 in
set_option maxHeartbeats 4000000 in
theorem sp_K_loadRam (M0 : Mem) (a1 : Int32) (Q : Int32 → Prop) (hok : ok_K_loadRam M0 a1) (hQ : Q (f_K_loadRam_v M0 a1)) : wp_K_loadRam M0 a1 Q := by
  unfold wp_K_loadRam
  unfold ok_K_loadRam at hok
  unfold f_K_loadRam_v at hQ
  refine ⟨fun hc => ?_, fun hc => ?_⟩
  · simp only [if_neg hc] at hQ
    have hok := hok.1 hc
    refine ⟨hok, ?_⟩
    intro x1 h_; subst h_
    refine ⟨fun hc => ?_, fun hc => ?_⟩
    · simp only [if_neg hc] at hQ
      exact sp_K_loadRam_j1 _ _ hQ
    · simp only [if_pos hc] at hQ
      exact sp_K_loadRam_j1 _ _ hQ
  · simp only [if_pos hc] at hQ
    exact hQ
def f_P_load_j2_v (x1 : Int32) (x7 : Int32) (x10 : Int32) : Int32 := let x11 : Int32 := (x7 ||| x10); (((192 : Int32) ||| x1) ||| ((x11 ^^^ (-1 : Int32)) &&& (15 : Int32)))
set_option maxRecDepth 100000 in
set_option maxHeartbeats 4000000 in
theorem sp_P_load_j2 (x1 : Int32) (x7 : Int32) (x10 : Int32) (Q : Int32 → Prop) (hQ : Q (f_P_load_j2_v x1 x7 x10)) : wp_P_load_j2 x1 x7 x10 Q := by
  unfold wp_P_load_j2
  unfold f_P_load_j2_v at hQ
  intro x11 h_; subst h_
  exact hQ
def f_P_load_j1_v (M0 : Mem) (x1 : Int32) (x7 : Int32) : Int32 := (if (x1 &&& (32 : Int32)) = 0 then (f_P_load_j2_v x1 x7 ((M0 2 2) >>> ((4 : Int32) &&& (31 : Int32)))) else (f_P_load_j2_v x1 x7 (0 : Int32)))
set_option maxRecDepth 100000 in
set_option maxHeartbeats 4000000 in
theorem sp_P_load_j1 (M0 : Mem) (x1 : Int32) (x7 : Int32) (Q : Int32 → Prop) (hQ : Q (f_P_load_j1_v M0 x1 x7)) : wp_P_load_j1 M0 x1 x7 Q := by
  unfold wp_P_load_j1
  unfold f_P_load_j1_v at hQ
  refine ⟨fun hc => ?_, fun hc => ?_⟩
  · simp only [if_neg hc] at hQ
    exact sp_P_load_j2 _ _ _ _ hQ
  · simp only [if_pos hc] at hQ
    exact sp_P_load_j2 _ _ _ _ hQ
def f_P_load_j3_v (M0 : Mem) (x13 : Int32) : Int32 := ((((M0 8 65) ||| (128 : Int32)) ||| x13) ||| (M0 2 6))
set_option maxRecDepth 100000 in
set_option maxHeartbeats 4000000 in
theorem sp_P_load_j3 (M0 : Mem) (x13 : Int32) (Q : Int32 → Prop) (hQ : Q (f_P_load_j3_v M0 x13)) : wp_P_load_j3 M0 x13 Q := by
  unfold wp_P_load_j3
  unfold f_P_load_j3_v at hQ
  exact hQ
def f_P_load_v (M0 : Mem) (a1 : Int32) : Int32 := (if (a1 = (0 : Int32)) then let x1 : Int32 := (M0 8 0); (if (x1 &&& (16 : Int32)) = 0 then (f_P_load_j1_v M0 x1 ((M0 2 2) &&& (15 : Int32))) else (f_P_load_j1_v M0 x1 (0 : Int32))) else (if (a1 = (4 : Int32)) then (((M0 2 3) >>> ((6 : Int32) &&& (31 : Int32))) &&& (255 : Int32)) else (if (a1 = (5 : Int32) ∨ a1 = (6 : Int32) ∨ a1 = (64 : Int32) ∨ a1 = (66 : Int32) ∨ a1 = (67 : Int32) ∨ a1 = (69 : Int32) ∨ a1 = (70 : Int32) ∨ a1 = (71 : Int32) ∨ a1 = (72 : Int32) ∨ a1 = (73 : Int32) ∨ a1 = (74 : Int32) ∨ a1 = (75 : Int32) ∨ a1 = (255 : Int32)) then (M0 8 ((a1 &&& (255 : Int32))).toNatClampNeg) else (if (a1 = (7 : Int32)) then ((M0 8 7) ||| (248 : Int32)) else (if (a1 = (15 : Int32)) then ((M0 8 15) ||| (224 : Int32)) else (if (a1 = (65 : Int32)) then (if (M0 2 5) = (M0 8 69) then (f_P_load_j3_v M0 (4 : Int32)) else (f_P_load_j3_v M0 (0 : Int32))) else (if (a1 = (68 : Int32)) then (M0 2 5) else (255 : Int32))))))))
def ok_P_load (M0 : Mem) (a1 : Int32) : Prop := ((((a1 = (0 : Int32))) → True) ∧ ((¬ (a1 = (0 : Int32))) → ((((a1 = (4 : Int32))) → True) ∧ ((¬ (a1 = (4 : Int32))) → ((((a1 = (5 : Int32) ∨ a1 = (6 : Int32) ∨ a1 = (64 : Int32) ∨ a1 = (66 : Int32) ∨ a1 = (67 : Int32) ∨ a1 = (69 : Int32) ∨ a1 = (70 : Int32) ∨ a1 = (71 : Int32) ∨ a1 = (72 : Int32) ∨ a1 = (73 : Int32) ∨ a1 = (74 : Int32) ∨ a1 = (75 : Int32) ∨ a1 = (255 : Int32))) → vp_in (a1 &&& (255 : Int32)) 256) ∧ ((¬ (a1 = (5 : Int32) ∨ a1 = (6 : Int32) ∨ a1 = (64 : Int32) ∨ a1 = (66 : Int32) ∨ a1 = (67 : Int32) ∨ a1 = (69 : Int32) ∨ a1 = (70 : Int32) ∨ a1 = (71 : Int32) ∨ a1 = (72 : Int32) ∨ a1 = (73 : Int32) ∨ a1 = (74 : Int32) ∨ a1 = (75 : Int32) ∨ a1 = (255 : Int32))) → True))))))
set_option maxRecDepth 100000 in
set_option maxHeartbeats 4000000 in
theorem sp_P_load (M0 : Mem) (a1 : Int32) (Q : Int32 → Prop) (hok : ok_P_load M0 a1) (hQ : Q (f_P_load_v M0 a1)) : wp_P_load M0 a1 Q := by
  unfold wp_P_load
  unfold ok_P_load at hok
  unfold f_P_load_v at hQ
  refine ⟨fun hc => ?_, fun hc => ?_⟩
  · simp only [if_pos hc] at hQ
    intro x1 h_; subst h_
    refine ⟨fun hc => ?_, fun hc => ?_⟩
    · simp only [if_neg hc] at hQ
      exact sp_P_load_j1 _ _ _ _ hQ
    · simp only [if_pos hc] at hQ
      exact sp_P_load_j1 _ _ _ _ hQ
  · simp only [if_neg hc] at hQ
    have hok := hok.2 hc
    refine ⟨fun hc => ?_, fun hc => ?_⟩
    · simp only [if_pos hc] at hQ
      exact hQ
    · simp only [if_neg hc] at hQ
      have hok := hok.2 hc
      refine ⟨fun hc => ?_, fun hc => ?_⟩
      · simp only [if_pos hc] at hQ
        have hok := hok.1 hc
        refine ⟨hok, ?_⟩
        exact hQ
      · simp only [if_neg hc] at hQ
        refine ⟨fun hc => ?_, fun hc => ?_⟩
        · simp only [if_pos hc] at hQ
          exact hQ
        · simp only [if_neg hc] at hQ
          refine ⟨fun hc => ?_, fun hc => ?_⟩
          · simp only [if_pos hc] at hQ
            exact hQ
          · simp only [if_neg hc] at hQ
            refine ⟨fun hc => ?_, fun hc => ?_⟩
            · simp only [if_pos hc] at hQ
              refine ⟨fun hc => ?_, fun hc => ?_⟩
              · simp only [if_neg hc] at hQ
                exact sp_P_load_j3 _ _ _ hQ
              · simp only [if_pos hc] at hQ
                exact sp_P_load_j3 _ _ _ hQ
            · simp only [if_neg hc] at hQ
              refine ⟨fun hc => ?_, fun hc => ?_⟩
              · simp only [if_pos hc] at hQ
                exact hQ
              · simp only [if_neg hc] at hQ
                exact hQ
def f_Y_load_j1_v (M0 : Mem) (a1 : Int32) : Int32 := let x2 : Int32 := f_P_load_v M0 (a1 &&& (255 : Int32)); x2
def ok_Y_load_j1 (M0 : Mem) (a1 : Int32) : Prop := ok_P_load M0 (a1 &&& (255 : Int32))
set_option maxRecDepth 100000 in
set_option maxHeartbeats 4000000 in
theorem sp_Y_load_j1 (M0 : Mem) (a1 : Int32) (Q : Int32 → Prop) (hok : ok_Y_load_j1 M0 a1) (hQ : Q (f_Y_load_j1_v M0 a1)) : wp_Y_load_j1 M0 a1 Q := by
  unfold wp_Y_load_j1
  unfold ok_Y_load_j1 at hok
  unfold f_Y_load_j1_v at hQ
  refine sp_P_load _ _ _ hok ?_
  exact hQ
def f_Y_load_v (M0 : Mem) (a1 : Int32) : Int32 := (if (32768 : Int32) ≤ a1 then (if (40960 : Int32) ≤ a1 then (if (49152 : Int32) ≤ a1 then (if (65024 : Int32) ≤ a1 then (if (65184 : Int32) ≤ a1 then (if (65280 : Int32) ≤ a1 then (if a1 < (65408 : Int32) then (f_Y_load_j1_v M0 a1) else (if a1 = (65535 : Int32) then (f_Y_load_j1_v M0 a1) else (M0 12 ((a1 &&& (127 : Int32))).toNatClampNeg))) else (255 : Int32)) else (M0 10 ((a1 - (65024 : Int32))).toNatClampNeg)) else (M0 11 ((a1 &&& (1023 : Int32))).toNatClampNeg)) else let x3 : Int32 := f_K_loadRam_v M0 a1; x3) else (M0 9 ((a1 &&& (8191 : Int32))).toNatClampNeg)) else let x4 : Int32 := f_K_loadRom_v M0 a1; x4)
def ok_Y_load (M0 : Mem) (a1 : Int32) : Prop := ((((32768 : Int32) ≤ a1) → ((((40960 : Int32) ≤ a1) → ((((49152 : Int32) ≤ a1) → ((((65024 : Int32) ≤ a1) → ((((65184 : Int32) ≤ a1) → ((((65280 : Int32) ≤ a1) → (((a1 < (65408 : Int32)) → ok_Y_load_j1 M0 a1) ∧ ((¬ a1 < (65408 : Int32)) → (((¬ a1 = (65535 : Int32)) → vp_in (a1 &&& (127 : Int32)) 128) ∧ ((a1 = (65535 : Int32)) → ok_Y_load_j1 M0 a1))))) ∧ ((¬ (65280 : Int32) ≤ a1) → True))) ∧ ((¬ (65184 : Int32) ≤ a1) → vp_in (a1 - (65024 : Int32)) 160))) ∧ ((¬ (65024 : Int32) ≤ a1) → vp_in (a1 &&& (1023 : Int32)) 1024))) ∧ ((¬ (49152 : Int32) ≤ a1) → ok_K_loadRam M0 a1))) ∧ ((¬ (40960 : Int32) ≤ a1) → vp_in (a1 &&& (8191 : Int32)) 8192))) ∧ ((¬ (32768 : Int32) ≤ a1) → ok_K_loadRom M0 a1))
set_option maxRecDepth 100000 in
set_option maxHeartbeats 4000000 in
theorem sp_Y_load (M0 : Mem) (a1 : Int32) (Q : Int32 → Prop) (hok : ok_Y_load M0 a1) (hQ : Q (f_Y_load_v M0 a1)) : wp_Y_load M0 a1 Q := by
  unfold wp_Y_load
  unfold ok_Y_load at hok
  unfold f_Y_load_v at hQ
  refine ⟨fun hc => ?_, fun hc => ?_⟩
  · simp only [if_pos hc] at hQ
    have hok := hok.1 hc
    refine ⟨fun hc => ?_, fun hc => ?_⟩
    · simp only [if_pos hc] at hQ
      have hok := hok.1 hc
      refine ⟨fun hc => ?_, fun hc => ?_⟩
      · simp only [if_pos hc] at hQ
        have hok := hok.1 hc
        refine ⟨fun hc => ?_, fun hc => ?_⟩
        · simp only [if_pos hc] at hQ
          have hok := hok.1 hc
          refine ⟨fun hc => ?_, fun hc => ?_⟩
          · simp only [if_pos hc] at hQ
            have hok := hok.1 hc
            refine ⟨fun hc => ?_, fun hc => ?_⟩
            · simp only [if_pos hc] at hQ
              have hok := hok.1 hc
              refine ⟨fun hc => ?_, fun hc => ?_⟩
              · simp only [if_pos hc] at hQ
                have hok := hok.1 hc
                exact sp_Y_load_j1 _ _ _ hok hQ
              · simp only [if_neg hc] at hQ
                have hok := hok.2 hc
                refine ⟨fun hc => ?_, fun hc => ?_⟩
                · simp only [if_neg hc] at hQ
                  have hok := hok.1 hc
                  refine ⟨hok, ?_⟩
                  exact hQ
                · simp only [if_pos hc] at hQ
                  have hok := hok.2 hc
                  exact sp_Y_load_j1 _ _ _ hok hQ
            · simp only [if_neg hc] at hQ
              exact hQ
          · simp only [if_neg hc] at hQ
            have hok := hok.2 hc
            refine ⟨hok, ?_⟩
            exact hQ
        · simp only [if_neg hc] at hQ
          have hok := hok.2 hc
          refine ⟨hok, ?_⟩
          exact hQ
      · simp only [if_neg hc] at hQ
        have hok := hok.2 hc
        refine sp_K_loadRam _ _ _ hok ?_
        exact hQ
    · simp only [if_neg hc] at hQ
      have hok := hok.2 hc
      refine ⟨hok, ?_⟩
      exact hQ
  · simp only [if_neg hc] at hQ
    have hok := hok.2 hc
    refine sp_K_loadRom _ _ _ hok ?_
    exact hQ
def f_Y_store_j1_m (M21 : Mem) : Mem := M21
set_option maxRecDepth 100000 in
set_option maxHeartbeats 4000000 in
theorem sp_Y_store_j1 (M21 : Mem) (Q : Mem → Prop) (hQ : Q (f_Y_store_j1_m M21)) : wp_Y_store_j1 M21 Q := by
  unfold wp_Y_store_j1
  unfold f_Y_store_j1_m at hQ
  exact hQ
def f_Y_store_l1_m (a2 : Int32) (n : Nat) : Int32 → Mem → Mem := Nat.rec (motive := fun _ => Int32 → Mem → Mem) (fun _ _ => (fun _ _ => 0)) (fun _ K1_m x30 M31 => (if (160 : Int32) ≤ x30 then (f_Y_store_j1_m M31) else let x32 : Int32 := f_Y_load_v M31 ((a2 * (256 : Int32)) + x30); let M33 : Mem := mst M31 10 x30.toNatClampNeg x32; let x34 : Int32 := x30 + (1 : Int32); (K1_m x34 M33))) n
theorem f_Y_store_l1_m_s (a2 : Int32) (n : Nat) (x30 : Int32) (M31 : Mem) : f_Y_store_l1_m a2 (n + 1) x30 M31 = (let K1_m : Int32 → Mem → Mem := f_Y_store_l1_m a2 n; (if (160 : Int32) ≤ x30 then (f_Y_store_j1_m M31) else let x32 : Int32 := f_Y_load_v M31 ((a2 * (256 : Int32)) + x30); let M33 : Mem := mst M31 10 x30.toNatClampNeg x32; let x34 : Int32 := x30 + (1 : Int32); (K1_m x34 M33))) := rfl
def ok_Y_store_l1 (a2 : Int32) (n : Nat) : Int32 → Mem → Prop := Nat.rec (motive := fun _ => Int32 → Mem → Prop) (fun _ _ => False) (fun _ K1_ok x30 M31 => ((((160 : Int32) ≤ x30) → True) ∧ ((¬ (160 : Int32) ≤ x30) → ok_Y_load M31 ((a2 * (256 : Int32)) + x30) ∧ (∀ x32 : Int32, x32 = f_Y_load_v M31 ((a2 * (256 : Int32)) + x30) → vp_in x30 160 ∧ (∀ M33 : Mem, M33 = mst M31 10 x30.toNatClampNeg x32 → ∀ x34 : Int32, x34 = x30 + (1 : Int32) → K1_ok x34 M33))))) n
set_option maxRecDepth 100000 in
set_option maxHeartbeats 4000000 in
theorem sp_Y_store_l1 (a2 : Int32) {Q : Mem → Prop} : ∀ (n : Nat) (x30 : Int32) (M31 : Mem), ok_Y_store_l1 a2 n x30 M31 → Q (f_Y_store_l1_m a2 n x30 M31) → wp_Y_store_l1 a2 Q n x30 M31 := by
  intro n
  induction n with
  | zero => intro x30 M31 hok; exact False.elim hok
  | succ n ih =>
    intro x30 M31 hok hQ
    have hK1 := ih
    rw [f_Y_store_l1_m_s] at hQ
    refine ⟨fun hc => ?_, fun hc => ?_⟩
    · simp only [if_pos hc] at hQ
      exact sp_Y_store_j1 _ _ hQ
    · simp only [if_neg hc] at hQ
      have hok := hok.2 hc
      refine sp_Y_load _ _ _ hok.1 ?_
      have hok := hok.2 _ rfl
      refine ⟨hok.1, ?_⟩
      have hok := hok.2
      intro M33 h_; subst h_
      have hok := hok _ rfl
      intro x34 h_; subst h_
      have hok := hok _ rfl
      exact hK1 _ _  hok hQ
def f_Y_store_j2_m (M0 : Mem) (a1 : Int32) (a2 : Int32) : Mem := (if a1 < (65280 : Int32) then (f_Y_store_j1_m M0) else let M29 : Mem := f_P_store_m M0 (a1 &&& (255 : Int32)) a2; (if a1 = (65350 : Int32) then (f_Y_store_l1_m a2 161 (0 : Int32) M29) else (f_Y_store_j1_m M29)))
def ok_Y_store_j2 (M0 : Mem) (a1 : Int32) (a2 : Int32) : Prop := (((a1 < (65280 : Int32)) → True) ∧ ((¬ a1 < (65280 : Int32)) → ok_P_store M0 (a1 &&& (255 : Int32)) a2 ∧ (∀ M29 : Mem, M29 = f_P_store_m M0 (a1 &&& (255 : Int32)) a2 → (((¬ a1 = (65350 : Int32)) → True) ∧ ((a1 = (65350 : Int32)) → ok_Y_store_l1 a2 161 (0 : Int32) M29)))))
set_option maxRecDepth 100000 in
set_option maxHeartbeats 4000000 in
theorem sp_Y_store_j2 (M0 : Mem) (a1 : Int32) (a2 : Int32) (Q : Mem → Prop) (hok : ok_Y_store_j2 M0 a1 a2) (hQ : Q (f_Y_store_j2_m M0 a1 a2)) : wp_Y_store_j2 M0 a1 a2 Q := by
  unfold wp_Y_store_j2
  unfold ok_Y_store_j2 at hok
  unfold f_Y_store_j2_m at hQ
  refine ⟨fun hc => ?_, fun hc => ?_⟩
  · simp only [if_pos hc] at hQ
    exact sp_Y_store_j1 _ _ hQ
  · simp only [if_neg hc] at hQ
    have hok := hok.2 hc
    refine sp_P_store _ _ _ _ hok.1 ?_
    have hok := hok.2 _ rfl
    refine ⟨fun hc => ?_, fun hc => ?_⟩
    · simp only [if_neg hc] at hQ
      exact sp_Y_store_j1 _ _ hQ
    · simp only [if_pos hc] at hQ
      have hok := hok.2 hc
      exact ⟨_, sp_Y_store_l1 _ _ _ _  hok hQ⟩
def f_Y_store_m (M0 : Mem) (a1 : Int32) (a2 : Int32) : Mem := (if (32768 : Int32) ≤ a1 then (if (40960 : Int32) ≤ a1 then (if (49152 : Int32) ≤ a1 then (if (65024 : Int32) ≤ a1 then (if (65184 : Int32) ≤ a1 then (if a1 < (65408 : Int32) then (f_Y_store_j2_m M0 a1 a2) else (if (65535 : Int32) ≤ a1 then (f_Y_store_j2_m M0 a1 a2) else let M35 : Mem := mst M0 12 ((a1 &&& (127 : Int32))).toNatClampNeg a2; (f_Y_store_j1_m M35))) else let M36 : Mem := mst M0 10 ((a1 - (65024 : Int32))).toNatClampNeg a2; (f_Y_store_j1_m M36)) else let M37 : Mem := mst M0 11 ((a1 &&& (1023 : Int32))).toNatClampNeg a2; (f_Y_store_j1_m M37)) else let M38 : Mem := f_K_storeRam_m M0 a1 a2; (f_Y_store_j1_m M38)) else let M39 : Mem := mst M0 9 ((a1 &&& (8191 : Int32))).toNatClampNeg a2; (f_Y_store_j1_m M39)) else let M40 : Mem := f_K_control_m M0 a1 a2; (f_Y_store_j1_m M40))
def ok_Y_store (M0 : Mem) (a1 : Int32) (a2 : Int32) : Prop := ((((32768 : Int32) ≤ a1) → ((((40960 : Int32) ≤ a1) → ((((49152 : Int32) ≤ a1) → ((((65024 : Int32) ≤ a1) → ((((65184 : Int32) ≤ a1) → (((a1 < (65408 : Int32)) → ok_Y_store_j2 M0 a1 a2) ∧ ((¬ a1 < (65408 : Int32)) → ((((65535 : Int32) ≤ a1) → ok_Y_store_j2 M0 a1 a2) ∧ ((¬ (65535 : Int32) ≤ a1) → vp_in (a1 &&& (127 : Int32)) 128))))) ∧ ((¬ (65184 : Int32) ≤ a1) → vp_in (a1 - (65024 : Int32)) 160))) ∧ ((¬ (65024 : Int32) ≤ a1) → vp_in (a1 &&& (1023 : Int32)) 1024))) ∧ ((¬ (49152 : Int32) ≤ a1) → ok_K_storeRam M0 a1 a2))) ∧ ((¬ (40960 : Int32) ≤ a1) → vp_in (a1 &&& (8191 : Int32)) 8192))) ∧ ((¬ (32768 : Int32) ≤ a1) → ok_K_control M0 a1 a2))
set_option maxRecDepth 100000 in
set_option maxHeartbeats 4000000 in
theorem sp_Y_store (M0 : Mem) (a1 : Int32) (a2 : Int32) (Q : Mem → Prop) (hok : ok_Y_store M0 a1 a2) (hQ : Q (f_Y_store_m M0 a1 a2)) : wp_Y_store M0 a1 a2 Q := by
  unfold wp_Y_store
  unfold ok_Y_store at hok
  unfold f_Y_store_m at hQ
  refine ⟨fun hc => ?_, fun hc => ?_⟩
  · simp only [if_pos hc] at hQ
    have hok := hok.1 hc
    refine ⟨fun hc => ?_, fun hc => ?_⟩
    · simp only [if_pos hc] at hQ
      have hok := hok.1 hc
      refine ⟨fun hc => ?_, fun hc => ?_⟩
      · simp only [if_pos hc] at hQ
        have hok := hok.1 hc
        refine ⟨fun hc => ?_, fun hc => ?_⟩
        · simp only [if_pos hc] at hQ
          have hok := hok.1 hc
          refine ⟨fun hc => ?_, fun hc => ?_⟩
          · simp only [if_pos hc] at hQ
            have hok := hok.1 hc
            refine ⟨fun hc => ?_, fun hc => ?_⟩
            · simp only [if_pos hc] at hQ
              have hok := hok.1 hc
              exact sp_Y_store_j2 _ _ _ _ hok hQ
            · simp only [if_neg hc] at hQ
              have hok := hok.2 hc
              refine ⟨fun hc => ?_, fun hc => ?_⟩
              · simp only [if_pos hc] at hQ
                have hok := hok.1 hc
                exact sp_Y_store_j2 _ _ _ _ hok hQ
              · simp only [if_neg hc] at hQ
                have hok := hok.2 hc
                refine ⟨hok, ?_⟩
                intro M35 h_; subst h_
                exact sp_Y_store_j1 _ _ hQ
          · simp only [if_neg hc] at hQ
            have hok := hok.2 hc
            refine ⟨hok, ?_⟩
            intro M36 h_; subst h_
            exact sp_Y_store_j1 _ _ hQ
        · simp only [if_neg hc] at hQ
          have hok := hok.2 hc
          refine ⟨hok, ?_⟩
          intro M37 h_; subst h_
          exact sp_Y_store_j1 _ _ hQ
      · simp only [if_neg hc] at hQ
        have hok := hok.2 hc
        refine sp_K_storeRam _ _ _ _ hok ?_
        exact sp_Y_store_j1 _ _ hQ
    · simp only [if_neg hc] at hQ
      have hok := hok.2 hc
      refine ⟨hok, ?_⟩
      intro M39 h_; subst h_
      exact sp_Y_store_j1 _ _ hQ
  · simp only [if_neg hc] at hQ
    have hok := hok.2 hc
    refine sp_K_control _ _ _ _ hok ?_
    exact sp_Y_store_j1 _ _ hQ
def f_Q_push_m (M0 : Mem) (a1 : Int32) : Mem := let M1 : Mem := f_Y_store_m M0 (((M0 5 7) - (1 : Int32)) &&& (65535 : Int32)) (a1 >>> ((8 : Int32) &&& (31 : Int32))); let M2 : Mem := f_Y_store_m M1 (((M1 5 7) - (2 : Int32)) &&& (65535 : Int32)) (a1 &&& (255 : Int32)); let M3 : Mem := mst M2 5 7 (((M2 5 7) - (2 : Int32)) &&& (65535 : Int32)); let M4 : Mem := mst M3 5 10 ((M3 5 10) + (3 : Int32)); M4
def ok_Q_push (M0 : Mem) (a1 : Int32) : Prop := ok_Y_store M0 (((M0 5 7) - (1 : Int32)) &&& (65535 : Int32)) (a1 >>> ((8 : Int32) &&& (31 : Int32))) ∧ (∀ M1 : Mem, M1 = f_Y_store_m M0 (((M0 5 7) - (1 : Int32)) &&& (65535 : Int32)) (a1 >>> ((8 : Int32) &&& (31 : Int32))) → ok_Y_store M1 (((M1 5 7) - (2 : Int32)) &&& (65535 : Int32)) (a1 &&& (255 : Int32)))
set_option maxRecDepth 100000 in
set_option maxHeartbeats 4000000 in
theorem sp_Q_push (M0 : Mem) (a1 : Int32) (Q : Mem → Prop) (hok : ok_Q_push M0 a1) (hQ : Q (f_Q_push_m M0 a1)) : wp_Q_push M0 a1 Q := by
  unfold wp_Q_push
  unfold ok_Q_push at hok
  unfold f_Q_push_m at hQ
  refine sp_Y_store _ _ _ _ hok.1 ?_
  have hok := hok.2 _ rfl
  refine sp_Y_store _ _ _ _ hok ?_
  intro M3 h_; subst h_
  intro M4 h_; subst h_
  exact hQ
def f_Q_takeInterrupt_j1_m (M0 : Mem) (x1 : Int32) : Mem := let M9 : Mem := mst M0 5 3 (0 : Int32); let M10 : Mem := mst M9 8 15 ((M9 8 15) &&& (((1 : Int32) <<< (x1 &&& (31 : Int32))) ^^^ (-1 : Int32))); let M11 : Mem := f_Q_push_m M10 (M10 5 8); let M12 : Mem := mst M11 5 8 ((64 : Int32) + ((8 : Int32) * x1)); let M13 : Mem := mst M12 5 10 (5 : Int32); let M14 : Mem := mst M13 5 2 ((M13 5 2) + (1 : Int32)); M14
def ok_Q_takeInterrupt_j1 (M0 : Mem) (x1 : Int32) : Prop := ∀ M9 : Mem, M9 = mst M0 5 3 (0 : Int32) → ∀ M10 : Mem, M10 = mst M9 8 15 ((M9 8 15) &&& (((1 : Int32) <<< (x1 &&& (31 : Int32))) ^^^ (-1 : Int32))) → ok_Q_push M10 (M10 5 8)
set_option maxRecDepth 100000 in
set_option maxHeartbeats 4000000 in
theorem sp_Q_takeInterrupt_j1 (M0 : Mem) (x1 : Int32) (Q : Mem → Prop) (hok : ok_Q_takeInterrupt_j1 M0 x1) (hQ : Q (f_Q_takeInterrupt_j1_m M0 x1)) : wp_Q_takeInterrupt_j1 M0 x1 Q := by
  unfold wp_Q_takeInterrupt_j1
  unfold ok_Q_takeInterrupt_j1 at hok
  unfold f_Q_takeInterrupt_j1_m at hQ
  intro M9 h_; subst h_
  have hok := hok _ rfl
  intro M10 h_; subst h_
  have hok := hok _ rfl
  refine sp_Q_push _ _ _ hok ?_
  intro M12 h_; subst h_
  intro M13 h_; subst h_
  intro M14 h_; subst h_
  exact hQ
def f_Q_takeInterrupt_l1_m (M0 : Mem) (a1 : Int32) (n : Nat) : Int32 → Mem := Nat.rec (motive := fun _ => Int32 → Mem) (fun _ => (fun _ _ => 0)) (fun _ K1_m x1 => (if (4 : Int32) ≤ x1 then (f_Q_takeInterrupt_j1_m M0 x1) else (if ((a1 >>> (x1 &&& (31 : Int32))) &&& (1 : Int32)) = 0 then let x15 : Int32 := x1 + (1 : Int32); (K1_m x15) else (f_Q_takeInterrupt_j1_m M0 x1)))) n
theorem f_Q_takeInterrupt_l1_m_s (M0 : Mem) (a1 : Int32) (n : Nat) (x1 : Int32) : f_Q_takeInterrupt_l1_m M0 a1 (n + 1) x1 = (let K1_m : Int32 → Mem := f_Q_takeInterrupt_l1_m M0 a1 n; (if (4 : Int32) ≤ x1 then (f_Q_takeInterrupt_j1_m M0 x1) else (if ((a1 >>> (x1 &&& (31 : Int32))) &&& (1 : Int32)) = 0 then let x15 : Int32 := x1 + (1 : Int32); (K1_m x15) else (f_Q_takeInterrupt_j1_m M0 x1)))) := rfl
def ok_Q_takeInterrupt_l1 (M0 : Mem) (a1 : Int32) (n : Nat) : Int32 → Prop := Nat.rec (motive := fun _ => Int32 → Prop) (fun _ => False) (fun _ K1_ok x1 => ((((4 : Int32) ≤ x1) → ok_Q_takeInterrupt_j1 M0 x1) ∧ ((¬ (4 : Int32) ≤ x1) → (((¬ ((a1 >>> (x1 &&& (31 : Int32))) &&& (1 : Int32)) = 0) → ok_Q_takeInterrupt_j1 M0 x1) ∧ ((((a1 >>> (x1 &&& (31 : Int32))) &&& (1 : Int32)) = 0) → ∀ x15 : Int32, x15 = x1 + (1 : Int32) → K1_ok x15))))) n
set_option maxRecDepth 100000 in
set_option maxHeartbeats 4000000 in
theorem sp_Q_takeInterrupt_l1 (M0 : Mem) (a1 : Int32) {Q : Mem → Prop} : ∀ (n : Nat) (x1 : Int32), ok_Q_takeInterrupt_l1 M0 a1 n x1 → Q (f_Q_takeInterrupt_l1_m M0 a1 n x1) → wp_Q_takeInterrupt_l1 M0 a1 Q n x1 := by
  intro n
  induction n with
  | zero => intro x1 hok; exact False.elim hok
  | succ n ih =>
    intro x1 hok hQ
    have hK1 := ih
    rw [f_Q_takeInterrupt_l1_m_s] at hQ
    refine ⟨fun hc => ?_, fun hc => ?_⟩
    · simp only [if_pos hc] at hQ
      have hok := hok.1 hc
      exact sp_Q_takeInterrupt_j1 _ _ _ hok hQ
    · simp only [if_neg hc] at hQ
      have hok := hok.2 hc
      refine ⟨fun hc => ?_, fun hc => ?_⟩
      · simp only [if_neg hc] at hQ
        have hok := hok.1 hc
        exact sp_Q_takeInterrupt_j1 _ _ _ hok hQ
      · simp only [if_pos hc] at hQ
        have hok := hok.2 hc
        intro x15 h_; subst h_
        have hok := hok _ rfl
        exact hK1 _  hok hQ
def f_Q_takeInterrupt_m (M0 : Mem) (a1 : Int32) : Mem := (f_Q_takeInterrupt_l1_m M0 a1 5 (0 : Int32))
def ok_Q_takeInterrupt (M0 : Mem) (a1 : Int32) : Prop := ok_Q_takeInterrupt_l1 M0 a1 5 (0 : Int32)
set_option maxRecDepth 100000 in
set_option maxHeartbeats 4000000 in
theorem sp_Q_takeInterrupt (M0 : Mem) (a1 : Int32) (Q : Mem → Prop) (hok : ok_Q_takeInterrupt M0 a1) (hQ : Q (f_Q_takeInterrupt_m M0 a1)) : wp_Q_takeInterrupt M0 a1 Q := by
  unfold wp_Q_takeInterrupt
  unfold ok_Q_takeInterrupt at hok
  unfold f_Q_takeInterrupt_m at hQ
  exact ⟨_, sp_Q_takeInterrupt_l1 _ _ _ _  hok hQ⟩
def f_P_moveTimer_j1_m (M0 : Mem) : Mem := M0
set_option maxRecDepth 100000 in
set_option maxHeartbeats 4000000 in
theorem sp_P_moveTimer_j1 (M0 : Mem) (Q : Mem → Prop) (hQ : Q (f_P_moveTimer_j1_m M0)) : wp_P_moveTimer_j1 M0 Q := by
  unfold wp_P_moveTimer_j1
  unfold f_P_moveTimer_j1_m at hQ
  exact hQ
def f_P_moveTimer_j2_m (M14 : Mem) : Mem := M14
set_option maxRecDepth 100000 in
set_option maxHeartbeats 4000000 in
theorem sp_P_moveTimer_j2 (M14 : Mem) (Q : Mem → Prop) (hQ : Q (f_P_moveTimer_j2_m M14)) : wp_P_moveTimer_j2 M14 Q := by
  unfold wp_P_moveTimer_j2
  unfold f_P_moveTimer_j2_m at hQ
  exact hQ
def f_P_moveTimer_m (M0 : Mem) : Mem := let x1 : Int32 := (M0 8 7); (if (x1 &&& (4 : Int32)) = 0 then (f_P_moveTimer_j1_m M0) else (if ((M0 2 3) &&& (tv_c0 ((x1 &&& (3 : Int32))).toNatClampNeg)) = 0 then (if (M0 8 5) = (255 : Int32) then let M16 : Mem := mst M0 8 5 (M0 8 6); let M17 : Mem := mst M16 8 15 ((M16 8 15) ||| (4 : Int32)); (f_P_moveTimer_j2_m M17) else let M15 : Mem := mst M0 8 5 ((M0 8 5) + (1 : Int32)); (f_P_moveTimer_j2_m M15)) else (f_P_moveTimer_j1_m M0)))
def ok_P_moveTimer (M0 : Mem) : Prop := ∀ x1 : Int32, x1 = (M0 8 7) → ((((x1 &&& (4 : Int32)) = 0) → True) ∧ ((¬ (x1 &&& (4 : Int32)) = 0) → vp_in (x1 &&& (3 : Int32)) 4))
set_option maxRecDepth 100000 in
set_option maxHeartbeats 4000000 in
theorem sp_P_moveTimer (M0 : Mem) (Q : Mem → Prop) (hok : ok_P_moveTimer M0) (hQ : Q (f_P_moveTimer_m M0)) : wp_P_moveTimer M0 Q := by
  unfold wp_P_moveTimer
  unfold ok_P_moveTimer at hok
  unfold f_P_moveTimer_m at hQ
  intro x1 h_; subst h_
  have hok := hok _ rfl
  refine ⟨fun hc => ?_, fun hc => ?_⟩
  · simp only [if_pos hc] at hQ
    exact sp_P_moveTimer_j1 _ _ hQ
  · simp only [if_neg hc] at hQ
    have hok := hok.2 hc
    refine ⟨hok, ?_⟩
    refine ⟨fun hc => ?_, fun hc => ?_⟩
    · simp only [if_pos hc] at hQ
      refine ⟨fun hc => ?_, fun hc => ?_⟩
      · simp only [if_neg hc] at hQ
        intro M15 h_; subst h_
        exact sp_P_moveTimer_j2 _ _ hQ
      · simp only [if_pos hc] at hQ
        intro M16 h_; subst h_
        intro M17 h_; subst h_
        exact sp_P_moveTimer_j2 _ _ hQ
    · simp only [if_neg hc] at hQ
      exact sp_P_moveTimer_j1 _ _ hQ
def f_P_moveDot_j2_m (M16 : Mem) : Mem := M16
set_option maxRecDepth 100000 in
set_option maxHeartbeats 4000000 in
theorem sp_P_moveDot_j2 (M16 : Mem) (Q : Mem → Prop) (hQ : Q (f_P_moveDot_j2_m M16)) : wp_P_moveDot_j2 M16 Q := by
  unfold wp_P_moveDot_j2
  unfold f_P_moveDot_j2_m at hQ
  exact hQ
def f_P_moveDot_j1_m (M2 : Mem) (x11 : Int32) : Mem := let M12 : Mem := mst M2 2 5 x11; (if (M12 2 5) = (144 : Int32) then let M17 : Mem := mst M12 8 15 ((M12 8 15) ||| (1 : Int32)); let M18 : Mem := mst M17 2 1 ((M17 2 1) + (1 : Int32)); (f_P_moveDot_j2_m M18) else (f_P_moveDot_j2_m M12))
set_option maxRecDepth 100000 in
set_option maxHeartbeats 4000000 in
theorem sp_P_moveDot_j1 (M2 : Mem) (x11 : Int32) (Q : Mem → Prop) (hQ : Q (f_P_moveDot_j1_m M2 x11)) : wp_P_moveDot_j1 M2 x11 Q := by
  unfold wp_P_moveDot_j1
  unfold f_P_moveDot_j1_m at hQ
  intro M12 h_; subst h_
  refine ⟨fun hc => ?_, fun hc => ?_⟩
  · simp only [if_neg hc] at hQ
    exact sp_P_moveDot_j2 _ _ hQ
  · simp only [if_pos hc] at hQ
    intro M17 h_; subst h_
    intro M18 h_; subst h_
    exact sp_P_moveDot_j2 _ _ hQ
def f_P_moveDot_m (M0 : Mem) : Mem := (if ((M0 8 64) &&& (128 : Int32)) = 0 then M0 else let M1 : Mem := mst M0 2 4 ((M0 2 4) + (1 : Int32)); (if (114 : Int32) ≤ (M1 2 4) then let M2 : Mem := mst M1 2 4 (0 : Int32); (if (154 : Int32) ≤ ((M2 2 5) + (1 : Int32)) then (f_P_moveDot_j1_m M2 (0 : Int32)) else (f_P_moveDot_j1_m M2 ((M2 2 5) + (1 : Int32)))) else M1))
set_option maxRecDepth 100000 in
set_option maxHeartbeats 4000000 in
theorem sp_P_moveDot (M0 : Mem) (Q : Mem → Prop) (hQ : Q (f_P_moveDot_m M0)) : wp_P_moveDot M0 Q := by
  unfold wp_P_moveDot
  unfold f_P_moveDot_m at hQ
  refine ⟨fun hc => ?_, fun hc => ?_⟩
  · simp only [if_neg hc] at hQ
    intro M1 h_; subst h_
    refine ⟨fun hc => ?_, fun hc => ?_⟩
    · simp only [if_pos hc] at hQ
      intro M2 h_; subst h_
      refine ⟨fun hc => ?_, fun hc => ?_⟩
      · simp only [if_pos hc] at hQ
        exact sp_P_moveDot_j1 _ _ _ hQ
      · simp only [if_neg hc] at hQ
        exact sp_P_moveDot_j1 _ _ _ hQ
    · simp only [if_neg hc] at hQ
      exact hQ
  · simp only [if_pos hc] at hQ
    exact hQ
def f_P_rowSignals_j1_v (x2 : Int32) : Int32 := x2
def ok_P_rowSignals_j1 (x2 : Int32) : Prop := isB x2
set_option maxRecDepth 100000 in
set_option maxHeartbeats 4000000 in
theorem sp_P_rowSignals_j1 (x2 : Int32) (Q : Int32 → Prop) (hok : ok_P_rowSignals_j1 x2) (hQ : Q (f_P_rowSignals_j1_v x2)) : wp_P_rowSignals_j1 x2 Q := by
  unfold wp_P_rowSignals_j1
  unfold ok_P_rowSignals_j1 at hok
  unfold f_P_rowSignals_j1_v at hQ
  refine ⟨hok, ?_⟩
  exact hQ
def f_P_rowSignals_j2_v : Int32 := (f_P_rowSignals_j1_v (0 : Int32))
def ok_P_rowSignals_j2 : Prop := ok_P_rowSignals_j1 (0 : Int32)
set_option maxRecDepth 100000 in
set_option maxHeartbeats 4000000 in
theorem sp_P_rowSignals_j2 (Q : Int32 → Prop) (hok : ok_P_rowSignals_j2 ) (hQ : Q (f_P_rowSignals_j2_v )) : wp_P_rowSignals_j2  Q := by
  unfold wp_P_rowSignals_j2
  unfold ok_P_rowSignals_j2 at hok
  unfold f_P_rowSignals_j2_v at hQ
  exact sp_P_rowSignals_j1 _ _ hok hQ
def f_P_rowSignals_v (M0 : Mem) : Int32 := (if ((M0 8 65) &&& (64 : Int32)) = 0 then (f_P_rowSignals_j2_v) else (if (M0 2 5) = (M0 8 69) then (f_P_rowSignals_j1_v (1 : Int32)) else (f_P_rowSignals_j2_v)))
def ok_P_rowSignals (M0 : Mem) : Prop := (((((M0 8 65) &&& (64 : Int32)) = 0) → ok_P_rowSignals_j2) ∧ ((¬ ((M0 8 65) &&& (64 : Int32)) = 0) → (((¬ (M0 2 5) = (M0 8 69)) → ok_P_rowSignals_j2) ∧ (((M0 2 5) = (M0 8 69)) → ok_P_rowSignals_j1 (1 : Int32)))))
set_option maxRecDepth 100000 in
set_option maxHeartbeats 4000000 in
theorem sp_P_rowSignals (M0 : Mem) (Q : Int32 → Prop) (hok : ok_P_rowSignals M0) (hQ : Q (f_P_rowSignals_v M0)) : wp_P_rowSignals M0 Q := by
  unfold wp_P_rowSignals
  unfold ok_P_rowSignals at hok
  unfold f_P_rowSignals_v at hQ
  refine ⟨fun hc => ?_, fun hc => ?_⟩
  · simp only [if_pos hc] at hQ
    have hok := hok.1 hc
    exact sp_P_rowSignals_j2 _ hok hQ
  · simp only [if_neg hc] at hQ
    have hok := hok.2 hc
    refine ⟨fun hc => ?_, fun hc => ?_⟩
    · simp only [if_neg hc] at hQ
      have hok := hok.1 hc
      exact sp_P_rowSignals_j2 _ hok hQ
    · simp only [if_pos hc] at hQ
      have hok := hok.2 hc
      exact sp_P_rowSignals_j1 _ _ hok hQ
def f_P_stateSignals_j1_v (x2 : Int32) : Int32 := x2
def ok_P_stateSignals_j1 (x2 : Int32) : Prop := isB x2
set_option maxRecDepth 100000 in
set_option maxHeartbeats 4000000 in
theorem sp_P_stateSignals_j1 (x2 : Int32) (Q : Int32 → Prop) (hok : ok_P_stateSignals_j1 x2) (hQ : Q (f_P_stateSignals_j1_v x2)) : wp_P_stateSignals_j1 x2 Q := by
  unfold wp_P_stateSignals_j1
  unfold ok_P_stateSignals_j1 at hok
  unfold f_P_stateSignals_j1_v at hQ
  refine ⟨hok, ?_⟩
  exact hQ
def f_P_stateSignals_j2_v : Int32 := (f_P_stateSignals_j1_v (0 : Int32))
def ok_P_stateSignals_j2 : Prop := ok_P_stateSignals_j1 (0 : Int32)
set_option maxRecDepth 100000 in
set_option maxHeartbeats 4000000 in
theorem sp_P_stateSignals_j2 (Q : Int32 → Prop) (hok : ok_P_stateSignals_j2 ) (hQ : Q (f_P_stateSignals_j2_v )) : wp_P_stateSignals_j2  Q := by
  unfold wp_P_stateSignals_j2
  unfold ok_P_stateSignals_j2 at hok
  unfold f_P_stateSignals_j2_v at hQ
  exact sp_P_stateSignals_j1 _ _ hok hQ
def f_P_stateSignals_v (M0 : Mem) : Int32 := (if (3 : Int32) ≤ (M0 2 6) then (f_P_stateSignals_j2_v) else (if ((M0 8 65) &&& ((8 : Int32) <<< ((M0 2 6) &&& (31 : Int32)))) = 0 then (f_P_stateSignals_j2_v) else (f_P_stateSignals_j1_v (1 : Int32))))
def ok_P_stateSignals (M0 : Mem) : Prop := ((((3 : Int32) ≤ (M0 2 6)) → ok_P_stateSignals_j2) ∧ ((¬ (3 : Int32) ≤ (M0 2 6)) → (((((M0 8 65) &&& ((8 : Int32) <<< ((M0 2 6) &&& (31 : Int32)))) = 0) → ok_P_stateSignals_j2) ∧ ((¬ ((M0 8 65) &&& ((8 : Int32) <<< ((M0 2 6) &&& (31 : Int32)))) = 0) → ok_P_stateSignals_j1 (1 : Int32)))))
set_option maxRecDepth 100000 in
set_option maxHeartbeats 4000000 in
theorem sp_P_stateSignals (M0 : Mem) (Q : Int32 → Prop) (hok : ok_P_stateSignals M0) (hQ : Q (f_P_stateSignals_v M0)) : wp_P_stateSignals M0 Q := by
  unfold wp_P_stateSignals
  unfold ok_P_stateSignals at hok
  unfold f_P_stateSignals_v at hQ
  refine ⟨fun hc => ?_, fun hc => ?_⟩
  · simp only [if_pos hc] at hQ
    have hok := hok.1 hc
    exact sp_P_stateSignals_j2 _ hok hQ
  · simp only [if_neg hc] at hQ
    have hok := hok.2 hc
    refine ⟨fun hc => ?_, fun hc => ?_⟩
    · simp only [if_pos hc] at hQ
      have hok := hok.1 hc
      exact sp_P_stateSignals_j2 _ hok hQ
    · simp only [if_neg hc] at hQ
      have hok := hok.2 hc
      exact sp_P_stateSignals_j1 _ _ hok hQ
def f_P_lookAtSignal_j2_m (x11 : Int32) (M15 : Mem) : Mem := let M16 : Mem := mst M15 2 7 x11; M16
def ok_P_lookAtSignal_j2 (x11 : Int32) (M15 : Mem) : Prop := isB x11
set_option maxRecDepth 100000 in
set_option maxHeartbeats 4000000 in
theorem sp_P_lookAtSignal_j2 (x11 : Int32) (M15 : Mem) (Q : Mem → Prop) (hok : ok_P_lookAtSignal_j2 x11 M15) (hQ : Q (f_P_lookAtSignal_j2_m x11 M15)) : wp_P_lookAtSignal_j2 x11 M15 Q := by
  unfold wp_P_lookAtSignal_j2
  unfold ok_P_lookAtSignal_j2 at hok
  unfold f_P_lookAtSignal_j2_m at hQ
  refine ⟨hok, ?_⟩
  intro M16 h_; subst h_
  exact hQ
def f_P_lookAtSignal_j1_m (M0 : Mem) (x11 : Int32) : Mem := (if x11 = 0 then (f_P_lookAtSignal_j2_m x11 M0) else (if (M0 2 7) = 0 then let M17 : Mem := mst M0 8 15 ((M0 8 15) ||| (2 : Int32)); (f_P_lookAtSignal_j2_m x11 M17) else (f_P_lookAtSignal_j2_m x11 M0)))
def ok_P_lookAtSignal_j1 (M0 : Mem) (x11 : Int32) : Prop := (((x11 = 0) → ok_P_lookAtSignal_j2 x11 M0) ∧ ((¬ x11 = 0) → (((¬ (M0 2 7) = 0) → ok_P_lookAtSignal_j2 x11 M0) ∧ (((M0 2 7) = 0) → ∀ M17 : Mem, M17 = mst M0 8 15 ((M0 8 15) ||| (2 : Int32)) → ok_P_lookAtSignal_j2 x11 M17))))
set_option maxRecDepth 100000 in
set_option maxHeartbeats 4000000 in
theorem sp_P_lookAtSignal_j1 (M0 : Mem) (x11 : Int32) (Q : Mem → Prop) (hok : ok_P_lookAtSignal_j1 M0 x11) (hQ : Q (f_P_lookAtSignal_j1_m M0 x11)) : wp_P_lookAtSignal_j1 M0 x11 Q := by
  unfold wp_P_lookAtSignal_j1
  unfold ok_P_lookAtSignal_j1 at hok
  unfold f_P_lookAtSignal_j1_m at hQ
  refine ⟨fun hc => ?_, fun hc => ?_⟩
  · simp only [if_pos hc] at hQ
    have hok := hok.1 hc
    exact sp_P_lookAtSignal_j2 _ _ _ hok hQ
  · simp only [if_neg hc] at hQ
    have hok := hok.2 hc
    refine ⟨fun hc => ?_, fun hc => ?_⟩
    · simp only [if_neg hc] at hQ
      have hok := hok.1 hc
      exact sp_P_lookAtSignal_j2 _ _ _ hok hQ
    · simp only [if_pos hc] at hQ
      have hok := hok.2 hc
      intro M17 h_; subst h_
      have hok := hok _ rfl
      exact sp_P_lookAtSignal_j2 _ _ _ hok hQ
def f_P_lookAtSignal_j3_m (M0 : Mem) : Mem := (f_P_lookAtSignal_j1_m M0 (0 : Int32))
def ok_P_lookAtSignal_j3 (M0 : Mem) : Prop := ok_P_lookAtSignal_j1 M0 (0 : Int32)
set_option maxRecDepth 100000 in
set_option maxHeartbeats 4000000 in
theorem sp_P_lookAtSignal_j3 (M0 : Mem) (Q : Mem → Prop) (hok : ok_P_lookAtSignal_j3 M0) (hQ : Q (f_P_lookAtSignal_j3_m M0)) : wp_P_lookAtSignal_j3 M0 Q := by
  unfold wp_P_lookAtSignal_j3
  unfold ok_P_lookAtSignal_j3 at hok
  unfold f_P_lookAtSignal_j3_m at hQ
  exact sp_P_lookAtSignal_j1 _ _ _ hok hQ
def f_P_lookAtSignal_j4_m (M0 : Mem) : Mem := (f_P_lookAtSignal_j1_m M0 (1 : Int32))
def ok_P_lookAtSignal_j4 (M0 : Mem) : Prop := ok_P_lookAtSignal_j1 M0 (1 : Int32)
set_option maxRecDepth 100000 in
set_option maxHeartbeats 4000000 in
theorem sp_P_lookAtSignal_j4 (M0 : Mem) (Q : Mem → Prop) (hok : ok_P_lookAtSignal_j4 M0) (hQ : Q (f_P_lookAtSignal_j4_m M0)) : wp_P_lookAtSignal_j4 M0 Q := by
  unfold wp_P_lookAtSignal_j4
  unfold ok_P_lookAtSignal_j4 at hok
  unfold f_P_lookAtSignal_j4_m at hQ
  exact sp_P_lookAtSignal_j1 _ _ _ hok hQ
def f_P_lookAtSignal_m (M0 : Mem) : Mem := (if ((M0 8 64) &&& (128 : Int32)) = 0 then (f_P_lookAtSignal_j3_m M0) else let x18 : Int32 := f_P_rowSignals_v M0; (if x18 = 0 then let x20 : Int32 := f_P_stateSignals_v M0; (if x20 = 0 then (f_P_lookAtSignal_j3_m M0) else (f_P_lookAtSignal_j4_m M0)) else (f_P_lookAtSignal_j4_m M0)))
def ok_P_lookAtSignal (M0 : Mem) : Prop := (((((M0 8 64) &&& (128 : Int32)) = 0) → ok_P_lookAtSignal_j3 M0) ∧ ((¬ ((M0 8 64) &&& (128 : Int32)) = 0) → ok_P_rowSignals M0 ∧ (∀ x18 : Int32, x18 = f_P_rowSignals_v M0 → (((¬ x18 = 0) → ok_P_lookAtSignal_j4 M0) ∧ ((x18 = 0) → ok_P_stateSignals M0 ∧ (∀ x20 : Int32, x20 = f_P_stateSignals_v M0 → (((x20 = 0) → ok_P_lookAtSignal_j3 M0) ∧ ((¬ x20 = 0) → ok_P_lookAtSignal_j4 M0))))))))
set_option maxRecDepth 100000 in
set_option maxHeartbeats 4000000 in
theorem sp_P_lookAtSignal (M0 : Mem) (Q : Mem → Prop) (hok : ok_P_lookAtSignal M0) (hQ : Q (f_P_lookAtSignal_m M0)) : wp_P_lookAtSignal M0 Q := by
  unfold wp_P_lookAtSignal
  unfold ok_P_lookAtSignal at hok
  unfold f_P_lookAtSignal_m at hQ
  refine ⟨fun hc => ?_, fun hc => ?_⟩
  · simp only [if_pos hc] at hQ
    have hok := hok.1 hc
    exact sp_P_lookAtSignal_j3 _ _ hok hQ
  · simp only [if_neg hc] at hQ
    have hok := hok.2 hc
    refine sp_P_rowSignals _ _ hok.1 ?_
    have hok := hok.2 _ rfl
    refine ⟨fun hc => ?_, fun hc => ?_⟩
    · simp only [if_neg hc] at hQ
      have hok := hok.1 hc
      exact sp_P_lookAtSignal_j4 _ _ hok hQ
    · simp only [if_pos hc] at hQ
      have hok := hok.2 hc
      refine sp_P_stateSignals _ _ hok.1 ?_
      have hok := hok.2 _ rfl
      refine ⟨fun hc => ?_, fun hc => ?_⟩
      · simp only [if_pos hc] at hQ
        have hok := hok.1 hc
        exact sp_P_lookAtSignal_j3 _ _ hok hQ
      · simp only [if_neg hc] at hQ
        have hok := hok.2 hc
        exact sp_P_lookAtSignal_j4 _ _ hok hQ
def f_P_pass_l1_m (a1 : Int32) (n : Nat) : Int32 → Mem → Mem := Nat.rec (motive := fun _ => Int32 → Mem → Mem) (fun _ _ => (fun _ _ => 0)) (fun _ K1_m x1 M2 => (if a1 ≤ x1 then M2 else let M3 : Mem := mst M2 2 3 (((M2 2 3) + (1 : Int32)) &&& (65535 : Int32)); let M4 : Mem := f_P_moveTimer_m M3; let M5 : Mem := f_P_moveDot_m M4; let M6 : Mem := f_P_findState_m M5; let M7 : Mem := f_P_lookAtSignal_m M6; let x8 : Int32 := x1 + (1 : Int32); (K1_m x8 M7))) n
theorem f_P_pass_l1_m_s (a1 : Int32) (n : Nat) (x1 : Int32) (M2 : Mem) : f_P_pass_l1_m a1 (n + 1) x1 M2 = (let K1_m : Int32 → Mem → Mem := f_P_pass_l1_m a1 n; (if a1 ≤ x1 then M2 else let M3 : Mem := mst M2 2 3 (((M2 2 3) + (1 : Int32)) &&& (65535 : Int32)); let M4 : Mem := f_P_moveTimer_m M3; let M5 : Mem := f_P_moveDot_m M4; let M6 : Mem := f_P_findState_m M5; let M7 : Mem := f_P_lookAtSignal_m M6; let x8 : Int32 := x1 + (1 : Int32); (K1_m x8 M7))) := rfl
def ok_P_pass_l1 (a1 : Int32) (n : Nat) : Int32 → Mem → Prop := Nat.rec (motive := fun _ => Int32 → Mem → Prop) (fun _ _ => False) (fun _ K1_ok x1 M2 => (((a1 ≤ x1) → True) ∧ ((¬ a1 ≤ x1) → ∀ M3 : Mem, M3 = mst M2 2 3 (((M2 2 3) + (1 : Int32)) &&& (65535 : Int32)) → ok_P_moveTimer M3 ∧ (∀ M4 : Mem, M4 = f_P_moveTimer_m M3 → ∀ M5 : Mem, M5 = f_P_moveDot_m M4 → ∀ M6 : Mem, M6 = f_P_findState_m M5 → ok_P_lookAtSignal M6 ∧ (∀ M7 : Mem, M7 = f_P_lookAtSignal_m M6 → ∀ x8 : Int32, x8 = x1 + (1 : Int32) → K1_ok x8 M7))))) n
set_option maxRecDepth 100000 in
set_option maxHeartbeats 4000000 in
theorem sp_P_pass_l1 (a1 : Int32) {Q : Mem → Prop} : ∀ (n : Nat) (x1 : Int32) (M2 : Mem), ok_P_pass_l1 a1 n x1 M2 → Q (f_P_pass_l1_m a1 n x1 M2) → wp_P_pass_l1 a1 Q n x1 M2 := by
  intro n
  induction n with
  | zero => intro x1 M2 hok; exact False.elim hok
  | succ n ih =>
    intro x1 M2 hok hQ
    have hK1 := ih
    rw [f_P_pass_l1_m_s] at hQ
    refine ⟨fun hc => ?_, fun hc => ?_⟩
    · simp only [if_pos hc] at hQ
      exact hQ
    · simp only [if_neg hc] at hQ
      have hok := hok.2 hc
      intro M3 h_; subst h_
      have hok := hok _ rfl
      refine sp_P_moveTimer _ _ hok.1 ?_
      have hok := hok.2 _ rfl
      refine sp_P_moveDot _ _ ?_
      have hok := hok _ rfl
      refine sp_P_findState _ _ ?_
      have hok := hok _ rfl
      refine sp_P_lookAtSignal _ _ hok.1 ?_
      have hok := hok.2 _ rfl
      intro x8 h_; subst h_
      have hok := hok _ rfl
      exact hK1 _ _  hok hQ
def f_P_pass_m (M0 : Mem) (a1 : Int32) : Mem := (f_P_pass_l1_m a1 (a1.toNatClampNeg + 1) (0 : Int32) M0)
def ok_P_pass (M0 : Mem) (a1 : Int32) : Prop := ok_P_pass_l1 a1 (a1.toNatClampNeg + 1) (0 : Int32) M0
set_option maxRecDepth 100000 in
set_option maxHeartbeats 4000000 in
theorem sp_P_pass (M0 : Mem) (a1 : Int32) (Q : Mem → Prop) (hok : ok_P_pass M0 a1) (hQ : Q (f_P_pass_m M0 a1)) : wp_P_pass M0 a1 Q := by
  unfold wp_P_pass
  unfold ok_P_pass at hok
  unfold f_P_pass_m at hQ
  exact ⟨_, sp_P_pass_l1 _ _ _ _  hok hQ⟩
