def f_TX_rom_j1_v (M0 : Mem) : Nat := 0
def f_TX_rom_j1_m (M0 : Mem) : Mem := M0
set_option maxRecDepth 100000 in
set_option maxHeartbeats 4000000 in
theorem sp_TX_rom_j1 (M0 : Mem) (Q : Nat → Mem → Prop) (hQ : Q (f_TX_rom_j1_v M0) (f_TX_rom_j1_m M0)) : wp_TX_rom_j1 M0 Q := by
  unfold wp_TX_rom_j1
  unfold f_TX_rom_j1_v f_TX_rom_j1_m at hQ
  exact hQ
def f_TX_rom_j2_v (M0 : Mem) : Nat := 0
def f_TX_rom_j2_m (M0 : Mem) : Mem := M0
set_option maxRecDepth 100000 in
set_option maxHeartbeats 4000000 in
theorem sp_TX_rom_j2 (M0 : Mem) (Q : Nat → Mem → Prop) (hQ : Q (f_TX_rom_j2_v M0) (f_TX_rom_j2_m M0)) : wp_TX_rom_j2 M0 Q := by
  unfold wp_TX_rom_j2
  unfold f_TX_rom_j2_v f_TX_rom_j2_m at hQ
  exact hQ
def f_TX_rom_j3_v (M0 : Mem) : Nat := 1
def f_TX_rom_j3_m (M0 : Mem) : Mem := M0
set_option maxRecDepth 100000 in
set_option maxHeartbeats 4000000 in
theorem sp_TX_rom_j3 (M0 : Mem) (Q : Nat → Mem → Prop) (hQ : Q (f_TX_rom_j3_v M0) (f_TX_rom_j3_m M0)) : wp_TX_rom_j3 M0 Q := by
  unfold wp_TX_rom_j3
  unfold f_TX_rom_j3_v f_TX_rom_j3_m at hQ
  exact hQ
def f_TX_rom_l1_v (a1 : Int32) (a2 : Int32) (a3 : Int32) (a4 : Int64) (n : Nat) : Int32 → Mem → Nat := Nat.rec (motive := fun _ => Int32 → Mem → Nat) (fun _ _ => 0) (fun _ K1_v x36 M37 => (if a3 ≤ x36 then 0 else let x38 : Int32 := f_T_octetOf_v M37 a4 x36; let M39 : Mem := mst M37 6 ((((a1 * (1024 : Int32)) + a2) + x36)).toNatClampNeg x38; let x40 : Int32 := x36 + (1 : Int32); (K1_v x40 M39))) n
theorem f_TX_rom_l1_v_s (a1 : Int32) (a2 : Int32) (a3 : Int32) (a4 : Int64) (n : Nat) (x36 : Int32) (M37 : Mem) : f_TX_rom_l1_v a1 a2 a3 a4 (n + 1) x36 M37 = (let K1_v : Int32 → Mem → Nat := f_TX_rom_l1_v a1 a2 a3 a4 n; (if a3 ≤ x36 then 0 else let x38 : Int32 := f_T_octetOf_v M37 a4 x36; let M39 : Mem := mst M37 6 ((((a1 * (1024 : Int32)) + a2) + x36)).toNatClampNeg x38; let x40 : Int32 := x36 + (1 : Int32); (K1_v x40 M39))) := rfl
def f_TX_rom_l1_m (a1 : Int32) (a2 : Int32) (a3 : Int32) (a4 : Int64) (n : Nat) : Int32 → Mem → Mem := Nat.rec (motive := fun _ => Int32 → Mem → Mem) (fun _ _ => (fun _ _ => 0)) (fun _ K1_m x36 M37 => (if a3 ≤ x36 then (fun _ _ => 0) else let x38 : Int32 := f_T_octetOf_v M37 a4 x36; let M39 : Mem := mst M37 6 ((((a1 * (1024 : Int32)) + a2) + x36)).toNatClampNeg x38; let x40 : Int32 := x36 + (1 : Int32); (K1_m x40 M39))) n
theorem f_TX_rom_l1_m_s (a1 : Int32) (a2 : Int32) (a3 : Int32) (a4 : Int64) (n : Nat) (x36 : Int32) (M37 : Mem) : f_TX_rom_l1_m a1 a2 a3 a4 (n + 1) x36 M37 = (let K1_m : Int32 → Mem → Mem := f_TX_rom_l1_m a1 a2 a3 a4 n; (if a3 ≤ x36 then (fun _ _ => 0) else let x38 : Int32 := f_T_octetOf_v M37 a4 x36; let M39 : Mem := mst M37 6 ((((a1 * (1024 : Int32)) + a2) + x36)).toNatClampNeg x38; let x40 : Int32 := x36 + (1 : Int32); (K1_m x40 M39))) := rfl
def ok_TX_rom_l1 (a1 : Int32) (a2 : Int32) (a3 : Int32) (a4 : Int64) (n : Nat) : Int32 → Mem → Prop := Nat.rec (motive := fun _ => Int32 → Mem → Prop) (fun _ _ => False) (fun _ K1_ok x36 M37 => (((a3 ≤ x36) → False) ∧ ((¬ a3 ≤ x36) → ∀ x38 : Int32, x38 = f_T_octetOf_v M37 a4 x36 → vp_in (((a1 * (1024 : Int32)) + a2) + x36) 8192 ∧ (∀ M39 : Mem, M39 = mst M37 6 ((((a1 * (1024 : Int32)) + a2) + x36)).toNatClampNeg x38 → ∀ x40 : Int32, x40 = x36 + (1 : Int32) → K1_ok x40 M39)))) n
set_option maxRecDepth 100000 in
set_option maxHeartbeats 4000000 in
theorem sp_TX_rom_l1 (a1 : Int32) (a2 : Int32) (a3 : Int32) (a4 : Int64) {Q : Nat → Mem → Prop} : ∀ (n : Nat) (x36 : Int32) (M37 : Mem), ok_TX_rom_l1 a1 a2 a3 a4 n x36 M37 → Q (f_TX_rom_l1_v a1 a2 a3 a4 n x36 M37) (f_TX_rom_l1_m a1 a2 a3 a4 n x36 M37) → wp_TX_rom_l1 a1 a2 a3 a4 Q n x36 M37 := by
  intro n
  induction n with
  | zero => intro x36 M37 hok; exact False.elim hok
  | succ n ih =>
    intro x36 M37 hok hQ
    have hK1 := ih
    rw [f_TX_rom_l1_v_s, f_TX_rom_l1_m_s] at hQ
    refine ⟨fun hc => ?_, fun hc => ?_⟩
    · simp only [if_pos hc] at hQ
      have hok := hok.1 hc
      exact False.elim hok
    · simp only [if_neg hc] at hQ
      have hok := hok.2 hc
      refine sp_T_octetOf _ _ _ _ ?_
      have hok := hok _ rfl
      refine ⟨hok.1, ?_⟩
      have hok := hok.2
      intro M39 h_; subst h_
      have hok := hok _ rfl
      intro x40 h_; subst h_
      have hok := hok _ rfl
      exact hK1 _ _  hok hQ
def f_TX_rom_v (M0 : Mem) (a1 : Int32) (a2 : Int32) (a3 : Int32) (a4 : Int64) : Nat := (if a3 < (1 : Int32) then (f_TX_rom_j1_v M0) else (if a3 ≤ (8 : Int32) then (if a1 < 0 then (f_TX_rom_j2_v M0) else (if a1 < (8 : Int32) then (if a2 < 0 then (f_TX_rom_j3_v M0) else (if a2 ≤ ((1024 : Int32) - a3) then (f_TX_rom_l1_v a1 a2 a3 a4 9 (0 : Int32) M0) else (f_TX_rom_j3_v M0))) else (f_TX_rom_j2_v M0))) else (f_TX_rom_j1_v M0)))
def f_TX_rom_m (M0 : Mem) (a1 : Int32) (a2 : Int32) (a3 : Int32) (a4 : Int64) : Mem := (if a3 < (1 : Int32) then (f_TX_rom_j1_m M0) else (if a3 ≤ (8 : Int32) then (if a1 < 0 then (f_TX_rom_j2_m M0) else (if a1 < (8 : Int32) then (if a2 < 0 then (f_TX_rom_j3_m M0) else (if a2 ≤ ((1024 : Int32) - a3) then (f_TX_rom_l1_m a1 a2 a3 a4 9 (0 : Int32) M0) else (f_TX_rom_j3_m M0))) else (f_TX_rom_j2_m M0))) else (f_TX_rom_j1_m M0)))
def ok_TX_rom (M0 : Mem) (a1 : Int32) (a2 : Int32) (a3 : Int32) (a4 : Int64) : Prop := (((a3 < (1 : Int32)) → True) ∧ ((¬ a3 < (1 : Int32)) → (((a3 ≤ (8 : Int32)) → (((a1 < 0) → True) ∧ ((¬ a1 < 0) → (((a1 < (8 : Int32)) → (((a2 < 0) → True) ∧ ((¬ a2 < 0) → (((a2 ≤ ((1024 : Int32) - a3)) → ok_TX_rom_l1 a1 a2 a3 a4 9 (0 : Int32) M0) ∧ ((¬ a2 ≤ ((1024 : Int32) - a3)) → True))))) ∧ ((¬ a1 < (8 : Int32)) → True))))) ∧ ((¬ a3 ≤ (8 : Int32)) → True))))
set_option maxRecDepth 100000 in
set_option maxHeartbeats 4000000 in
theorem sp_TX_rom (M0 : Mem) (a1 : Int32) (a2 : Int32) (a3 : Int32) (a4 : Int64) (Q : Nat → Mem → Prop) (hok : ok_TX_rom M0 a1 a2 a3 a4) (hQ : Q (f_TX_rom_v M0 a1 a2 a3 a4) (f_TX_rom_m M0 a1 a2 a3 a4)) : wp_TX_rom M0 a1 a2 a3 a4 Q := by
  unfold wp_TX_rom
  unfold ok_TX_rom at hok
  unfold f_TX_rom_v f_TX_rom_m at hQ
  refine ⟨fun hc => ?_, fun hc => ?_⟩
  · simp only [if_pos hc] at hQ
    exact sp_TX_rom_j1 _ _ hQ
  · simp only [if_neg hc] at hQ
    have hok := hok.2 hc
    refine ⟨fun hc => ?_, fun hc => ?_⟩
    · simp only [if_pos hc] at hQ
      have hok := hok.1 hc
      refine ⟨fun hc => ?_, fun hc => ?_⟩
      · simp only [if_pos hc] at hQ
        exact sp_TX_rom_j2 _ _ hQ
      · simp only [if_neg hc] at hQ
        have hok := hok.2 hc
        refine ⟨fun hc => ?_, fun hc => ?_⟩
        · simp only [if_pos hc] at hQ
          have hok := hok.1 hc
          refine ⟨fun hc => ?_, fun hc => ?_⟩
          · simp only [if_pos hc] at hQ
            exact sp_TX_rom_j3 _ _ hQ
          · simp only [if_neg hc] at hQ
            have hok := hok.2 hc
            refine ⟨fun hc => ?_, fun hc => ?_⟩
            · simp only [if_pos hc] at hQ
              have hok := hok.1 hc
              exact ⟨_, sp_TX_rom_l1 _ _ _ _ _ _ _  hok hQ⟩
            · simp only [if_neg hc] at hQ
              exact sp_TX_rom_j3 _ _ hQ
        · simp only [if_neg hc] at hQ
          exact sp_TX_rom_j2 _ _ hQ
    · simp only [if_neg hc] at hQ
      exact sp_TX_rom_j1 _ _ hQ
def f_TX_insert_j1_v (M0 : Mem) : Nat := 0
def f_TX_insert_j1_m (M0 : Mem) : Mem := M0
set_option maxRecDepth 100000 in
set_option maxHeartbeats 4000000 in
theorem sp_TX_insert_j1 (M0 : Mem) (Q : Nat → Mem → Prop) (hQ : Q (f_TX_insert_j1_v M0) (f_TX_insert_j1_m M0)) : wp_TX_insert_j1 M0 Q := by
  unfold wp_TX_insert_j1
  unfold f_TX_insert_j1_v f_TX_insert_j1_m at hQ
  exact hQ
def f_TX_insert_v (M0 : Mem) (a1 : Int32) : Nat := (if a1 < 0 then (f_TX_insert_j1_v M0) else (if a1 ≤ (3 : Int32) then let x5 : Int32 := f_K_headerAgrees_v M0; (if x5 = 0 then 2 else 0) else (f_TX_insert_j1_v M0)))
def f_TX_insert_m (M0 : Mem) (a1 : Int32) : Mem := (if a1 < 0 then (f_TX_insert_j1_m M0) else (if a1 ≤ (3 : Int32) then let x5 : Int32 := f_K_headerAgrees_v M0; (if x5 = 0 then M0 else (fun _ _ => 0)) else (f_TX_insert_j1_m M0)))
def ok_TX_insert (M0 : Mem) (a1 : Int32) : Prop := (((a1 < 0) → True) ∧ ((¬ a1 < 0) → (((a1 ≤ (3 : Int32)) → ok_K_headerAgrees M0 ∧ (∀ x5 : Int32, x5 = f_K_headerAgrees_v M0 → (((¬ x5 = 0) → ∀ M6 : Mem, M6 = mst M0 1 2 (1 : Int32) → ∀ M7 : Mem, M7 = mst M6 1 3 a1 → ok_T_startAnew M7 ∧ (∀ M8 : Mem, M8 = f_T_startAnew_m M7 → False)) ∧ ((x5 = 0) → True)))) ∧ ((¬ a1 ≤ (3 : Int32)) → True))))
set_option maxRecDepth 100000 in
set_option maxHeartbeats 4000000 in
theorem sp_TX_insert (M0 : Mem) (a1 : Int32) (Q : Nat → Mem → Prop) (hok : ok_TX_insert M0 a1) (hQ : Q (f_TX_insert_v M0 a1) (f_TX_insert_m M0 a1)) : wp_TX_insert M0 a1 Q := by
  unfold wp_TX_insert
  unfold ok_TX_insert at hok
  unfold f_TX_insert_v f_TX_insert_m at hQ
  refine ⟨fun hc => ?_, fun hc => ?_⟩
  · simp only [if_pos hc] at hQ
    exact sp_TX_insert_j1 _ _ hQ
  · simp only [if_neg hc] at hQ
    have hok := hok.2 hc
    refine ⟨fun hc => ?_, fun hc => ?_⟩
    · simp only [if_pos hc] at hQ
      have hok := hok.1 hc
      refine sp_K_headerAgrees _ _ hok.1 ?_
      have hok := hok.2 _ rfl
      refine ⟨fun hc => ?_, fun hc => ?_⟩
      · simp only [if_neg hc] at hQ
        have hok := hok.1 hc
        intro M6 h_; subst h_
        have hok := hok _ rfl
        intro M7 h_; subst h_
        have hok := hok _ rfl
        refine sp_T_startAnew _ _ hok.1 ?_
        have hok := hok.2 _ rfl
        exact False.elim hok
      · simp only [if_pos hc] at hQ
        exact hQ
    · simp only [if_neg hc] at hQ
      exact sp_TX_insert_j1 _ _ hQ
def f_TX_run_j1_v (M0 : Mem) : Nat := 0
def f_TX_run_j1_m (M0 : Mem) : Mem := M0
set_option maxRecDepth 100000 in
set_option maxHeartbeats 4000000 in
theorem sp_TX_run_j1 (M0 : Mem) (Q : Nat → Mem → Prop) (hQ : Q (f_TX_run_j1_v M0) (f_TX_run_j1_m M0)) : wp_TX_run_j1 M0 Q := by
  unfold wp_TX_run_j1
  unfold f_TX_run_j1_v f_TX_run_j1_m at hQ
  exact hQ
def f_TX_run_j2_v (x11 : Int32) (K1_v : Int32 → Mem → Nat) (M16 : Mem) : Nat := (if (M16 5 5) = 0 then let x17 : Int32 := x11 + (1 : Int32); (K1_v x17 M16) else 3)
def f_TX_run_j2_m (x11 : Int32) (K1_m : Int32 → Mem → Mem) (M16 : Mem) : Mem := (if (M16 5 5) = 0 then let x17 : Int32 := x11 + (1 : Int32); (K1_m x17 M16) else M16)
def ok_TX_run_j2 (x11 : Int32) (K1_ok : Int32 → Mem → Prop) (M16 : Mem) : Prop := ((((M16 5 5) = 0) → ∀ x17 : Int32, x17 = x11 + (1 : Int32) → K1_ok x17 M16) ∧ ((¬ (M16 5 5) = 0) → True))
set_option maxRecDepth 100000 in
set_option maxHeartbeats 4000000 in
theorem sp_TX_run_j2 (x11 : Int32) {Q : Nat → Mem → Prop} (K1 : Int32 → Mem → Prop) (K1_v : Int32 → Mem → Nat) (K1_m : Int32 → Mem → Mem) (K1_ok : Int32 → Mem → Prop) (hK1 : ∀ (z0 : Int32) (z1 : Mem), K1_ok z0 z1 → Q (K1_v z0 z1) (K1_m z0 z1) → K1 z0 z1) (M16 : Mem) (hok : ok_TX_run_j2 x11 K1_ok M16) (hQ : Q (f_TX_run_j2_v x11 K1_v M16) (f_TX_run_j2_m x11 K1_m M16)) : wp_TX_run_j2 x11 K1 M16 Q := by
  unfold wp_TX_run_j2
  unfold ok_TX_run_j2 at hok
  unfold f_TX_run_j2_v f_TX_run_j2_m at hQ
  refine ⟨fun hc => ?_, fun hc => ?_⟩
  · simp only [if_pos hc] at hQ
    have hok := hok.1 hc
    intro x17 h_; subst h_
    have hok := hok _ rfl
    exact hK1 _ _  hok hQ
  · simp only [if_neg hc] at hQ
    exact hQ
def f_TX_run_l1_v (a1 : Int32) (n : Nat) : Int32 → Mem → Nat := Nat.rec (motive := fun _ => Int32 → Mem → Nat) (fun _ _ => 0) (fun _ K1_v x11 M12 => (if a1 ≤ x11 then 0 else (if (M12 5 5) = 0 then let M18 : Mem := f_Q_step_m M12; (f_TX_run_j2_v x11 K1_v M18) else (f_TX_run_j2_v x11 K1_v M12)))) n
theorem f_TX_run_l1_v_s (a1 : Int32) (n : Nat) (x11 : Int32) (M12 : Mem) : f_TX_run_l1_v a1 (n + 1) x11 M12 = (let K1_v : Int32 → Mem → Nat := f_TX_run_l1_v a1 n; (if a1 ≤ x11 then 0 else (if (M12 5 5) = 0 then let M18 : Mem := f_Q_step_m M12; (f_TX_run_j2_v x11 K1_v M18) else (f_TX_run_j2_v x11 K1_v M12)))) := rfl
def f_TX_run_l1_m (a1 : Int32) (n : Nat) : Int32 → Mem → Mem := Nat.rec (motive := fun _ => Int32 → Mem → Mem) (fun _ _ => (fun _ _ => 0)) (fun _ K1_m x11 M12 => (if a1 ≤ x11 then (fun _ _ => 0) else (if (M12 5 5) = 0 then let M18 : Mem := f_Q_step_m M12; (f_TX_run_j2_m x11 K1_m M18) else (f_TX_run_j2_m x11 K1_m M12)))) n
theorem f_TX_run_l1_m_s (a1 : Int32) (n : Nat) (x11 : Int32) (M12 : Mem) : f_TX_run_l1_m a1 (n + 1) x11 M12 = (let K1_m : Int32 → Mem → Mem := f_TX_run_l1_m a1 n; (if a1 ≤ x11 then (fun _ _ => 0) else (if (M12 5 5) = 0 then let M18 : Mem := f_Q_step_m M12; (f_TX_run_j2_m x11 K1_m M18) else (f_TX_run_j2_m x11 K1_m M12)))) := rfl
def ok_TX_run_l1 (a1 : Int32) (n : Nat) : Int32 → Mem → Prop := Nat.rec (motive := fun _ => Int32 → Mem → Prop) (fun _ _ => False) (fun _ K1_ok x11 M12 => (((a1 ≤ x11) → False) ∧ ((¬ a1 ≤ x11) → (((¬ (M12 5 5) = 0) → ok_TX_run_j2 x11 K1_ok M12) ∧ (((M12 5 5) = 0) → ok_Q_step M12 ∧ (∀ M18 : Mem, M18 = f_Q_step_m M12 → ok_TX_run_j2 x11 K1_ok M18)))))) n
set_option maxRecDepth 100000 in
set_option maxHeartbeats 4000000 in
theorem sp_TX_run_l1 (a1 : Int32) {Q : Nat → Mem → Prop} : ∀ (n : Nat) (x11 : Int32) (M12 : Mem), ok_TX_run_l1 a1 n x11 M12 → Q (f_TX_run_l1_v a1 n x11 M12) (f_TX_run_l1_m a1 n x11 M12) → wp_TX_run_l1 a1 Q n x11 M12 := by
  intro n
  induction n with
  | zero => intro x11 M12 hok; exact False.elim hok
  | succ n ih =>
    intro x11 M12 hok hQ
    have hK1 := ih
    rw [f_TX_run_l1_v_s, f_TX_run_l1_m_s] at hQ
    refine ⟨fun hc => ?_, fun hc => ?_⟩
    · simp only [if_pos hc] at hQ
      have hok := hok.1 hc
      exact False.elim hok
    · simp only [if_neg hc] at hQ
      have hok := hok.2 hc
      refine ⟨fun hc => ?_, fun hc => ?_⟩
      · simp only [if_neg hc] at hQ
        have hok := hok.1 hc
        exact sp_TX_run_j2 _ _ _ _ _ hK1 _  hok hQ
      · simp only [if_pos hc] at hQ
        have hok := hok.2 hc
        refine sp_Q_step _ _ hok.1 ?_
        have hok := hok.2 _ rfl
        exact sp_TX_run_j2 _ _ _ _ _ hK1 _  hok hQ
def f_TX_run_v (M0 : Mem) (a1 : Int32) : Nat := (if a1 < (1 : Int32) then (f_TX_run_j1_v M0) else (if a1 ≤ (100 : Int32) then (if (M0 1 2) = 0 then 2 else (f_TX_run_l1_v a1 101 (0 : Int32) M0)) else (f_TX_run_j1_v M0)))
def f_TX_run_m (M0 : Mem) (a1 : Int32) : Mem := (if a1 < (1 : Int32) then (f_TX_run_j1_m M0) else (if a1 ≤ (100 : Int32) then (if (M0 1 2) = 0 then M0 else (f_TX_run_l1_m a1 101 (0 : Int32) M0)) else (f_TX_run_j1_m M0)))
def ok_TX_run (M0 : Mem) (a1 : Int32) : Prop := (((a1 < (1 : Int32)) → True) ∧ ((¬ a1 < (1 : Int32)) → (((a1 ≤ (100 : Int32)) → (((¬ (M0 1 2) = 0) → ∀ x10 : Int32, x10 = (M0 5 0) → ok_TX_run_l1 a1 101 (0 : Int32) M0) ∧ (((M0 1 2) = 0) → True))) ∧ ((¬ a1 ≤ (100 : Int32)) → True))))
set_option maxRecDepth 100000 in
set_option maxHeartbeats 4000000 in
theorem sp_TX_run (M0 : Mem) (a1 : Int32) (Q : Nat → Mem → Prop) (hok : ok_TX_run M0 a1) (hQ : Q (f_TX_run_v M0 a1) (f_TX_run_m M0 a1)) : wp_TX_run M0 a1 Q := by
  unfold wp_TX_run
  unfold ok_TX_run at hok
  unfold f_TX_run_v f_TX_run_m at hQ
  refine ⟨fun hc => ?_, fun hc => ?_⟩
  · simp only [if_pos hc] at hQ
    exact sp_TX_run_j1 _ _ hQ
  · simp only [if_neg hc] at hQ
    have hok := hok.2 hc
    refine ⟨fun hc => ?_, fun hc => ?_⟩
    · simp only [if_pos hc] at hQ
      have hok := hok.1 hc
      refine ⟨fun hc => ?_, fun hc => ?_⟩
      · simp only [if_neg hc] at hQ
        have hok := hok.1 hc
        intro x10 h_; subst h_
        have hok := hok _ rfl
        exact ⟨_, sp_TX_run_l1 _ _ _ _  hok hQ⟩
      · simp only [if_pos hc] at hQ
        exact hQ
    · simp only [if_neg hc] at hQ
      exact sp_TX_run_j1 _ _ hQ
def f_TX_set_j1_v (M0 : Mem) : Nat := 0
def f_TX_set_j1_m (M0 : Mem) : Mem := M0
set_option maxRecDepth 100000 in
set_option maxHeartbeats 4000000 in
theorem sp_TX_set_j1 (M0 : Mem) (Q : Nat → Mem → Prop) (hQ : Q (f_TX_set_j1_v M0) (f_TX_set_j1_m M0)) : wp_TX_set_j1 M0 Q := by
  unfold wp_TX_set_j1
  unfold f_TX_set_j1_v f_TX_set_j1_m at hQ
  exact hQ
def f_TX_set_v (M0 : Mem) (a1 : Int32) (a2 : Int32) : Nat := (if a1 < 0 then (f_TX_set_j1_v M0) else (if a1 ≤ (9 : Int32) then 0 else (f_TX_set_j1_v M0)))
def f_TX_set_m (M0 : Mem) (a1 : Int32) (a2 : Int32) : Mem := (if a1 < 0 then (f_TX_set_j1_m M0) else (if a1 ≤ (9 : Int32) then (fun _ _ => 0) else (f_TX_set_j1_m M0)))
def ok_TX_set (M0 : Mem) (a1 : Int32) (a2 : Int32) : Prop := (((a1 < 0) → True) ∧ ((¬ a1 < 0) → (((a1 ≤ (9 : Int32)) → ok_Q_valueOf M0 a1 ∧ (∀ x3 : Int32, x3 = f_Q_valueOf_v M0 a1 → ok_Q_put M0 a1 a2 ∧ (∀ M4 : Mem, M4 = f_Q_put_m M0 a1 a2 → False))) ∧ ((¬ a1 ≤ (9 : Int32)) → True))))
set_option maxRecDepth 100000 in
set_option maxHeartbeats 4000000 in
theorem sp_TX_set (M0 : Mem) (a1 : Int32) (a2 : Int32) (Q : Nat → Mem → Prop) (hok : ok_TX_set M0 a1 a2) (hQ : Q (f_TX_set_v M0 a1 a2) (f_TX_set_m M0 a1 a2)) : wp_TX_set M0 a1 a2 Q := by
  unfold wp_TX_set
  unfold ok_TX_set at hok
  unfold f_TX_set_v f_TX_set_m at hQ
  refine ⟨fun hc => ?_, fun hc => ?_⟩
  · simp only [if_pos hc] at hQ
    exact sp_TX_set_j1 _ _ hQ
  · simp only [if_neg hc] at hQ
    have hok := hok.2 hc
    refine ⟨fun hc => ?_, fun hc => ?_⟩
    · simp only [if_pos hc] at hQ
      have hok := hok.1 hc
      refine sp_Q_valueOf _ _ _ hok.1 ?_
      have hok := hok.2 _ rfl
      refine sp_Q_put _ _ _ _ hok.1 ?_
      have hok := hok.2 _ rfl
      exact False.elim hok
    · simp only [if_neg hc] at hQ
      exact sp_TX_set_j1 _ _ hQ
def f_TX_register_j1_v (M0 : Mem) : Nat := 0
def f_TX_register_j1_m (M0 : Mem) : Mem := M0
set_option maxRecDepth 100000 in
set_option maxHeartbeats 4000000 in
theorem sp_TX_register_j1 (M0 : Mem) (Q : Nat → Mem → Prop) (hQ : Q (f_TX_register_j1_v M0) (f_TX_register_j1_m M0)) : wp_TX_register_j1 M0 Q := by
  unfold wp_TX_register_j1
  unfold f_TX_register_j1_v f_TX_register_j1_m at hQ
  exact hQ
def f_TX_register_v (M0 : Mem) (a1 : Int32) : Nat := (if a1 < 0 then (f_TX_register_j1_v M0) else (if a1 ≤ (9 : Int32) then 0 else (f_TX_register_j1_v M0)))
def f_TX_register_m (M0 : Mem) (a1 : Int32) : Mem := (if a1 < 0 then (f_TX_register_j1_m M0) else (if a1 ≤ (9 : Int32) then (fun _ _ => 0) else (f_TX_register_j1_m M0)))
def ok_TX_register (M0 : Mem) (a1 : Int32) : Prop := (((a1 < 0) → True) ∧ ((¬ a1 < 0) → (((a1 ≤ (9 : Int32)) → ok_Q_valueOf M0 a1 ∧ (∀ x2 : Int32, x2 = f_Q_valueOf_v M0 a1 → False)) ∧ ((¬ a1 ≤ (9 : Int32)) → True))))
set_option maxRecDepth 100000 in
set_option maxHeartbeats 4000000 in
theorem sp_TX_register (M0 : Mem) (a1 : Int32) (Q : Nat → Mem → Prop) (hok : ok_TX_register M0 a1) (hQ : Q (f_TX_register_v M0 a1) (f_TX_register_m M0 a1)) : wp_TX_register M0 a1 Q := by
  unfold wp_TX_register
  unfold ok_TX_register at hok
  unfold f_TX_register_v f_TX_register_m at hQ
  refine ⟨fun hc => ?_, fun hc => ?_⟩
  · simp only [if_pos hc] at hQ
    exact sp_TX_register_j1 _ _ hQ
  · simp only [if_neg hc] at hQ
    have hok := hok.2 hc
    refine ⟨fun hc => ?_, fun hc => ?_⟩
    · simp only [if_pos hc] at hQ
      have hok := hok.1 hc
      refine sp_Q_valueOf _ _ _ hok.1 ?_
      have hok := hok.2 _ rfl
      exact False.elim hok
    · simp only [if_neg hc] at hQ
      exact sp_TX_register_j1 _ _ hQ
def f_TX_read_j1_v (M0 : Mem) : Nat := 0
def f_TX_read_j1_m (M0 : Mem) : Mem := M0
set_option maxRecDepth 100000 in
set_option maxHeartbeats 4000000 in
theorem sp_TX_read_j1 (M0 : Mem) (Q : Nat → Mem → Prop) (hQ : Q (f_TX_read_j1_v M0) (f_TX_read_j1_m M0)) : wp_TX_read_j1 M0 Q := by
  unfold wp_TX_read_j1
  unfold f_TX_read_j1_v f_TX_read_j1_m at hQ
  exact hQ
def f_TX_read_v (M0 : Mem) (a1 : Int32) : Nat := (if a1 < 0 then (f_TX_read_j1_v M0) else (if a1 ≤ (65535 : Int32) then 0 else (f_TX_read_j1_v M0)))
def f_TX_read_m (M0 : Mem) (a1 : Int32) : Mem := (if a1 < 0 then (f_TX_read_j1_m M0) else (if a1 ≤ (65535 : Int32) then (fun _ _ => 0) else (f_TX_read_j1_m M0)))
def ok_TX_read (M0 : Mem) (a1 : Int32) : Prop := (((a1 < 0) → True) ∧ ((¬ a1 < 0) → (((a1 ≤ (65535 : Int32)) → ok_Y_load M0 a1 ∧ (∀ x2 : Int32, x2 = f_Y_load_v M0 a1 → False)) ∧ ((¬ a1 ≤ (65535 : Int32)) → True))))
set_option maxRecDepth 100000 in
set_option maxHeartbeats 4000000 in
theorem sp_TX_read (M0 : Mem) (a1 : Int32) (Q : Nat → Mem → Prop) (hok : ok_TX_read M0 a1) (hQ : Q (f_TX_read_v M0 a1) (f_TX_read_m M0 a1)) : wp_TX_read M0 a1 Q := by
  unfold wp_TX_read
  unfold ok_TX_read at hok
  unfold f_TX_read_v f_TX_read_m at hQ
  refine ⟨fun hc => ?_, fun hc => ?_⟩
  · simp only [if_pos hc] at hQ
    exact sp_TX_read_j1 _ _ hQ
  · simp only [if_neg hc] at hQ
    have hok := hok.2 hc
    refine ⟨fun hc => ?_, fun hc => ?_⟩
    · simp only [if_pos hc] at hQ
      have hok := hok.1 hc
      refine sp_Y_load _ _ _ hok.1 ?_
      have hok := hok.2 _ rfl
      exact False.elim hok
    · simp only [if_neg hc] at hQ
      exact sp_TX_read_j1 _ _ hQ
def f_TX_write_j1_v (M0 : Mem) : Nat := 0
def f_TX_write_j1_m (M0 : Mem) : Mem := M0
set_option maxRecDepth 100000 in
set_option maxHeartbeats 4000000 in
theorem sp_TX_write_j1 (M0 : Mem) (Q : Nat → Mem → Prop) (hQ : Q (f_TX_write_j1_v M0) (f_TX_write_j1_m M0)) : wp_TX_write_j1 M0 Q := by
  unfold wp_TX_write_j1
  unfold f_TX_write_j1_v f_TX_write_j1_m at hQ
  exact hQ
def f_TX_write_j2_v (M0 : Mem) : Nat := 0
def f_TX_write_j2_m (M0 : Mem) : Mem := M0
set_option maxRecDepth 100000 in
set_option maxHeartbeats 4000000 in
theorem sp_TX_write_j2 (M0 : Mem) (Q : Nat → Mem → Prop) (hQ : Q (f_TX_write_j2_v M0) (f_TX_write_j2_m M0)) : wp_TX_write_j2 M0 Q := by
  unfold wp_TX_write_j2
  unfold f_TX_write_j2_v f_TX_write_j2_m at hQ
  exact hQ
def f_TX_write_l1_v (a1 : Int32) (a2 : Int32) (a3 : Int64) (n : Nat) : Int32 → Mem → Nat := Nat.rec (motive := fun _ => Int32 → Mem → Nat) (fun _ _ => 0) (fun _ K1_v x16 M17 => (if a2 ≤ x16 then 0 else let x18 : Int32 := f_T_octetOf_v M17 a3 x16; let M19 : Mem := f_Y_store_m M17 (a1 + x16) x18; let x20 : Int32 := x16 + (1 : Int32); (K1_v x20 M19))) n
theorem f_TX_write_l1_v_s (a1 : Int32) (a2 : Int32) (a3 : Int64) (n : Nat) (x16 : Int32) (M17 : Mem) : f_TX_write_l1_v a1 a2 a3 (n + 1) x16 M17 = (let K1_v : Int32 → Mem → Nat := f_TX_write_l1_v a1 a2 a3 n; (if a2 ≤ x16 then 0 else let x18 : Int32 := f_T_octetOf_v M17 a3 x16; let M19 : Mem := f_Y_store_m M17 (a1 + x16) x18; let x20 : Int32 := x16 + (1 : Int32); (K1_v x20 M19))) := rfl
def f_TX_write_l1_m (a1 : Int32) (a2 : Int32) (a3 : Int64) (n : Nat) : Int32 → Mem → Mem := Nat.rec (motive := fun _ => Int32 → Mem → Mem) (fun _ _ => (fun _ _ => 0)) (fun _ K1_m x16 M17 => (if a2 ≤ x16 then (fun _ _ => 0) else let x18 : Int32 := f_T_octetOf_v M17 a3 x16; let M19 : Mem := f_Y_store_m M17 (a1 + x16) x18; let x20 : Int32 := x16 + (1 : Int32); (K1_m x20 M19))) n
theorem f_TX_write_l1_m_s (a1 : Int32) (a2 : Int32) (a3 : Int64) (n : Nat) (x16 : Int32) (M17 : Mem) : f_TX_write_l1_m a1 a2 a3 (n + 1) x16 M17 = (let K1_m : Int32 → Mem → Mem := f_TX_write_l1_m a1 a2 a3 n; (if a2 ≤ x16 then (fun _ _ => 0) else let x18 : Int32 := f_T_octetOf_v M17 a3 x16; let M19 : Mem := f_Y_store_m M17 (a1 + x16) x18; let x20 : Int32 := x16 + (1 : Int32); (K1_m x20 M19))) := rfl
def ok_TX_write_l1 (a1 : Int32) (a2 : Int32) (a3 : Int64) (n : Nat) : Int32 → Mem → Prop := Nat.rec (motive := fun _ => Int32 → Mem → Prop) (fun _ _ => False) (fun _ K1_ok x16 M17 => (((a2 ≤ x16) → False) ∧ ((¬ a2 ≤ x16) → ∀ x18 : Int32, x18 = f_T_octetOf_v M17 a3 x16 → ok_Y_store M17 (a1 + x16) x18 ∧ (∀ M19 : Mem, M19 = f_Y_store_m M17 (a1 + x16) x18 → ∀ x20 : Int32, x20 = x16 + (1 : Int32) → K1_ok x20 M19)))) n
set_option maxRecDepth 100000 in
set_option maxHeartbeats 4000000 in
theorem sp_TX_write_l1 (a1 : Int32) (a2 : Int32) (a3 : Int64) {Q : Nat → Mem → Prop} : ∀ (n : Nat) (x16 : Int32) (M17 : Mem), ok_TX_write_l1 a1 a2 a3 n x16 M17 → Q (f_TX_write_l1_v a1 a2 a3 n x16 M17) (f_TX_write_l1_m a1 a2 a3 n x16 M17) → wp_TX_write_l1 a1 a2 a3 Q n x16 M17 := by
  intro n
  induction n with
  | zero => intro x16 M17 hok; exact False.elim hok
  | succ n ih =>
    intro x16 M17 hok hQ
    have hK1 := ih
    rw [f_TX_write_l1_v_s, f_TX_write_l1_m_s] at hQ
    refine ⟨fun hc => ?_, fun hc => ?_⟩
    · simp only [if_pos hc] at hQ
      have hok := hok.1 hc
      exact False.elim hok
    · simp only [if_neg hc] at hQ
      have hok := hok.2 hc
      refine sp_T_octetOf _ _ _ _ ?_
      have hok := hok _ rfl
      refine sp_Y_store _ _ _ _ hok.1 ?_
      have hok := hok.2 _ rfl
      intro x20 h_; subst h_
      have hok := hok _ rfl
      exact hK1 _ _  hok hQ
def f_TX_write_v (M0 : Mem) (a1 : Int32) (a2 : Int32) (a3 : Int64) : Nat := (if a2 < (1 : Int32) then (f_TX_write_j1_v M0) else (if a2 ≤ (8 : Int32) then (if a1 < 0 then (f_TX_write_j2_v M0) else (if a1 ≤ ((65536 : Int32) - a2) then (f_TX_write_l1_v a1 a2 a3 9 (0 : Int32) M0) else (f_TX_write_j2_v M0))) else (f_TX_write_j1_v M0)))
def f_TX_write_m (M0 : Mem) (a1 : Int32) (a2 : Int32) (a3 : Int64) : Mem := (if a2 < (1 : Int32) then (f_TX_write_j1_m M0) else (if a2 ≤ (8 : Int32) then (if a1 < 0 then (f_TX_write_j2_m M0) else (if a1 ≤ ((65536 : Int32) - a2) then (f_TX_write_l1_m a1 a2 a3 9 (0 : Int32) M0) else (f_TX_write_j2_m M0))) else (f_TX_write_j1_m M0)))
def ok_TX_write (M0 : Mem) (a1 : Int32) (a2 : Int32) (a3 : Int64) : Prop := (((a2 < (1 : Int32)) → True) ∧ ((¬ a2 < (1 : Int32)) → (((a2 ≤ (8 : Int32)) → (((a1 < 0) → True) ∧ ((¬ a1 < 0) → (((a1 ≤ ((65536 : Int32) - a2)) → ok_TX_write_l1 a1 a2 a3 9 (0 : Int32) M0) ∧ ((¬ a1 ≤ ((65536 : Int32) - a2)) → True))))) ∧ ((¬ a2 ≤ (8 : Int32)) → True))))
set_option maxRecDepth 100000 in
set_option maxHeartbeats 4000000 in
theorem sp_TX_write (M0 : Mem) (a1 : Int32) (a2 : Int32) (a3 : Int64) (Q : Nat → Mem → Prop) (hok : ok_TX_write M0 a1 a2 a3) (hQ : Q (f_TX_write_v M0 a1 a2 a3) (f_TX_write_m M0 a1 a2 a3)) : wp_TX_write M0 a1 a2 a3 Q := by
  unfold wp_TX_write
  unfold ok_TX_write at hok
  unfold f_TX_write_v f_TX_write_m at hQ
  refine ⟨fun hc => ?_, fun hc => ?_⟩
  · simp only [if_pos hc] at hQ
    exact sp_TX_write_j1 _ _ hQ
  · simp only [if_neg hc] at hQ
    have hok := hok.2 hc
    refine ⟨fun hc => ?_, fun hc => ?_⟩
    · simp only [if_pos hc] at hQ
      have hok := hok.1 hc
      refine ⟨fun hc => ?_, fun hc => ?_⟩
      · simp only [if_pos hc] at hQ
        exact sp_TX_write_j2 _ _ hQ
      · simp only [if_neg hc] at hQ
        have hok := hok.2 hc
        refine ⟨fun hc => ?_, fun hc => ?_⟩
        · simp only [if_pos hc] at hQ
          have hok := hok.1 hc
          exact ⟨_, sp_TX_write_l1 _ _ _ _ _ _  hok hQ⟩
        · simp only [if_neg hc] at hQ
          exact sp_TX_write_j2 _ _ hQ
    · simp only [if_neg hc] at hQ
      exact sp_TX_write_j1 _ _ hQ
def f_TX_keys_j1_v (M0 : Mem) : Nat := 0
def f_TX_keys_j1_m (M0 : Mem) : Mem := M0
set_option maxRecDepth 100000 in
set_option maxHeartbeats 4000000 in
theorem sp_TX_keys_j1 (M0 : Mem) (Q : Nat → Mem → Prop) (hQ : Q (f_TX_keys_j1_v M0) (f_TX_keys_j1_m M0)) : wp_TX_keys_j1 M0 Q := by
  unfold wp_TX_keys_j1
  unfold f_TX_keys_j1_v f_TX_keys_j1_m at hQ
  exact hQ
def f_TX_keys_v (M0 : Mem) (a1 : Int32) : Nat := (if a1 < 0 then (f_TX_keys_j1_v M0) else (if a1 ≤ (255 : Int32) then 0 else (f_TX_keys_j1_v M0)))
def f_TX_keys_m (M0 : Mem) (a1 : Int32) : Mem := (if a1 < 0 then (f_TX_keys_j1_m M0) else (if a1 ≤ (255 : Int32) then (fun _ _ => 0) else (f_TX_keys_j1_m M0)))
def ok_TX_keys (M0 : Mem) (a1 : Int32) : Prop := (((a1 < 0) → True) ∧ ((¬ a1 < 0) → (((a1 ≤ (255 : Int32)) → ∀ x3 : Int32, x3 = f_P_press_v M0 a1 → ∀ M4 : Mem, M4 = f_P_press_m M0 a1 → False) ∧ ((¬ a1 ≤ (255 : Int32)) → True))))
set_option maxRecDepth 100000 in
set_option maxHeartbeats 4000000 in
theorem sp_TX_keys (M0 : Mem) (a1 : Int32) (Q : Nat → Mem → Prop) (hok : ok_TX_keys M0 a1) (hQ : Q (f_TX_keys_v M0 a1) (f_TX_keys_m M0 a1)) : wp_TX_keys M0 a1 Q := by
  unfold wp_TX_keys
  unfold ok_TX_keys at hok
  unfold f_TX_keys_v f_TX_keys_m at hQ
  refine ⟨fun hc => ?_, fun hc => ?_⟩
  · simp only [if_pos hc] at hQ
    exact sp_TX_keys_j1 _ _ hQ
  · simp only [if_neg hc] at hQ
    have hok := hok.2 hc
    refine ⟨fun hc => ?_, fun hc => ?_⟩
    · simp only [if_pos hc] at hQ
      have hok := hok.1 hc
      refine sp_P_press _ _ _ ?_
      have hok := hok _ rfl _ rfl
      exact False.elim hok
    · simp only [if_neg hc] at hQ
      exact sp_TX_keys_j1 _ _ hQ
def f_TX_row_j1_v (M0 : Mem) : Nat := 0
def f_TX_row_j1_m (M0 : Mem) : Mem := M0
set_option maxRecDepth 100000 in
set_option maxHeartbeats 4000000 in
theorem sp_TX_row_j1 (M0 : Mem) (Q : Nat → Mem → Prop) (hQ : Q (f_TX_row_j1_v M0) (f_TX_row_j1_m M0)) : wp_TX_row_j1 M0 Q := by
  unfold wp_TX_row_j1
  unfold f_TX_row_j1_v f_TX_row_j1_m at hQ
  exact hQ
def f_TX_row_v (M0 : Mem) (a1 : Int32) : Nat := (if a1 < 0 then (f_TX_row_j1_v M0) else (if a1 < (144 : Int32) then 0 else (f_TX_row_j1_v M0)))
def f_TX_row_m (M0 : Mem) (a1 : Int32) : Mem := (if a1 < 0 then (f_TX_row_j1_m M0) else (if a1 < (144 : Int32) then (fun _ _ => 0) else (f_TX_row_j1_m M0)))
def ok_TX_row (M0 : Mem) (a1 : Int32) : Prop := (((a1 < 0) → True) ∧ ((¬ a1 < 0) → (((a1 < (144 : Int32)) → ok_S_make M0 a1 ∧ (∀ x3 : Int32, x3 = f_S_make_v M0 a1 → ∀ M4 : Mem, M4 = f_S_make_m M0 a1 → False)) ∧ ((¬ a1 < (144 : Int32)) → True))))
set_option maxRecDepth 100000 in
set_option maxHeartbeats 4000000 in
theorem sp_TX_row (M0 : Mem) (a1 : Int32) (Q : Nat → Mem → Prop) (hok : ok_TX_row M0 a1) (hQ : Q (f_TX_row_v M0 a1) (f_TX_row_m M0 a1)) : wp_TX_row M0 a1 Q := by
  unfold wp_TX_row
  unfold ok_TX_row at hok
  unfold f_TX_row_v f_TX_row_m at hQ
  refine ⟨fun hc => ?_, fun hc => ?_⟩
  · simp only [if_pos hc] at hQ
    exact sp_TX_row_j1 _ _ hQ
  · simp only [if_neg hc] at hQ
    have hok := hok.2 hc
    refine ⟨fun hc => ?_, fun hc => ?_⟩
    · simp only [if_pos hc] at hQ
      have hok := hok.1 hc
      refine sp_S_make _ _ _ hok.1 ?_
      have hok := hok.2 _ rfl _ rfl
      exact False.elim hok
    · simp only [if_neg hc] at hQ
      exact sp_TX_row_j1 _ _ hQ
def f_TX_pixel_j1_v (M0 : Mem) : Nat := 1
def f_TX_pixel_j1_m (M0 : Mem) : Mem := M0
set_option maxRecDepth 100000 in
set_option maxHeartbeats 4000000 in
theorem sp_TX_pixel_j1 (M0 : Mem) (Q : Nat → Mem → Prop) (hQ : Q (f_TX_pixel_j1_v M0) (f_TX_pixel_j1_m M0)) : wp_TX_pixel_j1 M0 Q := by
  unfold wp_TX_pixel_j1
  unfold f_TX_pixel_j1_v f_TX_pixel_j1_m at hQ
  exact hQ
def f_TX_pixel_v (M0 : Mem) (a1 : Int32) : Nat := (if a1 < 0 then (f_TX_pixel_j1_v M0) else (if a1 < (160 : Int32) then 0 else (f_TX_pixel_j1_v M0)))
def f_TX_pixel_m (M0 : Mem) (a1 : Int32) : Mem := (if a1 < 0 then (f_TX_pixel_j1_m M0) else (if a1 < (160 : Int32) then (fun _ _ => 0) else (f_TX_pixel_j1_m M0)))
def ok_TX_pixel (M0 : Mem) (a1 : Int32) : Prop := (((a1 < 0) → True) ∧ ((¬ a1 < 0) → (((a1 < (160 : Int32)) → vp_in a1 160 ∧ (False)) ∧ ((¬ a1 < (160 : Int32)) → True))))
set_option maxRecDepth 100000 in
set_option maxHeartbeats 4000000 in
theorem sp_TX_pixel (M0 : Mem) (a1 : Int32) (Q : Nat → Mem → Prop) (hok : ok_TX_pixel M0 a1) (hQ : Q (f_TX_pixel_v M0 a1) (f_TX_pixel_m M0 a1)) : wp_TX_pixel M0 a1 Q := by
  unfold wp_TX_pixel
  unfold ok_TX_pixel at hok
  unfold f_TX_pixel_v f_TX_pixel_m at hQ
  refine ⟨fun hc => ?_, fun hc => ?_⟩
  · simp only [if_pos hc] at hQ
    exact sp_TX_pixel_j1 _ _ hQ
  · simp only [if_neg hc] at hQ
    have hok := hok.2 hc
    refine ⟨fun hc => ?_, fun hc => ?_⟩
    · simp only [if_pos hc] at hQ
      have hok := hok.1 hc
      refine ⟨hok.1, ?_⟩
      have hok := hok.2
      exact False.elim hok
    · simp only [if_neg hc] at hQ
      exact sp_TX_pixel_j1 _ _ hQ
def f_TX_count_j1_v (x2 : Int32) : Nat := 0
def f_TX_count_j1_m (x2 : Int32) : Mem := (fun _ _ => 0)
def ok_TX_count_j1 (x2 : Int32) : Prop := False
set_option maxRecDepth 100000 in
set_option maxHeartbeats 4000000 in
theorem sp_TX_count_j1 (x2 : Int32) (Q : Nat → Mem → Prop) (hok : ok_TX_count_j1 x2) (hQ : Q (f_TX_count_j1_v x2) (f_TX_count_j1_m x2)) : wp_TX_count_j1 x2 Q := by
  unfold wp_TX_count_j1
  unfold ok_TX_count_j1 at hok
  unfold f_TX_count_j1_v f_TX_count_j1_m at hQ
  exact False.elim hok
def f_TX_count_j2_v (x4 : Int32) : Nat := 0
def f_TX_count_j2_m (x4 : Int32) : Mem := (fun _ _ => 0)
def ok_TX_count_j2 (x4 : Int32) : Prop := False
set_option maxRecDepth 100000 in
set_option maxHeartbeats 4000000 in
theorem sp_TX_count_j2 (x4 : Int32) (Q : Nat → Mem → Prop) (hok : ok_TX_count_j2 x4) (hQ : Q (f_TX_count_j2_v x4) (f_TX_count_j2_m x4)) : wp_TX_count_j2 x4 Q := by
  unfold wp_TX_count_j2
  unfold ok_TX_count_j2 at hok
  unfold f_TX_count_j2_v f_TX_count_j2_m at hQ
  exact False.elim hok
def f_TX_count_j3_v (x6 : Int32) : Nat := 0
def f_TX_count_j3_m (x6 : Int32) : Mem := (fun _ _ => 0)
def ok_TX_count_j3 (x6 : Int32) : Prop := False
set_option maxRecDepth 100000 in
set_option maxHeartbeats 4000000 in
theorem sp_TX_count_j3 (x6 : Int32) (Q : Nat → Mem → Prop) (hok : ok_TX_count_j3 x6) (hQ : Q (f_TX_count_j3_v x6) (f_TX_count_j3_m x6)) : wp_TX_count_j3 x6 Q := by
  unfold wp_TX_count_j3
  unfold ok_TX_count_j3 at hok
  unfold f_TX_count_j3_v f_TX_count_j3_m at hQ
  exact False.elim hok
def f_TX_count_j4_v (x8 : Int32) : Nat := 0
def f_TX_count_j4_m (x8 : Int32) : Mem := (fun _ _ => 0)
def ok_TX_count_j4 (x8 : Int32) : Prop := False
set_option maxRecDepth 100000 in
set_option maxHeartbeats 4000000 in
theorem sp_TX_count_j4 (x8 : Int32) (Q : Nat → Mem → Prop) (hok : ok_TX_count_j4 x8) (hQ : Q (f_TX_count_j4_v x8) (f_TX_count_j4_m x8)) : wp_TX_count_j4 x8 Q := by
  unfold wp_TX_count_j4
  unfold ok_TX_count_j4 at hok
  unfold f_TX_count_j4_v f_TX_count_j4_m at hQ
  exact False.elim hok
def f_TX_count_j5_v (x10 : Int32) : Nat := 0
def f_TX_count_j5_m (x10 : Int32) : Mem := (fun _ _ => 0)
def ok_TX_count_j5 (x10 : Int32) : Prop := False
set_option maxRecDepth 100000 in
set_option maxHeartbeats 4000000 in
theorem sp_TX_count_j5 (x10 : Int32) (Q : Nat → Mem → Prop) (hok : ok_TX_count_j5 x10) (hQ : Q (f_TX_count_j5_v x10) (f_TX_count_j5_m x10)) : wp_TX_count_j5 x10 Q := by
  unfold wp_TX_count_j5
  unfold ok_TX_count_j5 at hok
  unfold f_TX_count_j5_v f_TX_count_j5_m at hQ
  exact False.elim hok
def f_TX_count_j6_v (x12 : Int32) : Nat := 0
def f_TX_count_j6_m (x12 : Int32) : Mem := (fun _ _ => 0)
def ok_TX_count_j6 (x12 : Int32) : Prop := False
set_option maxRecDepth 100000 in
set_option maxHeartbeats 4000000 in
theorem sp_TX_count_j6 (x12 : Int32) (Q : Nat → Mem → Prop) (hok : ok_TX_count_j6 x12) (hQ : Q (f_TX_count_j6_v x12) (f_TX_count_j6_m x12)) : wp_TX_count_j6 x12 Q := by
  unfold wp_TX_count_j6
  unfold ok_TX_count_j6 at hok
  unfold f_TX_count_j6_v f_TX_count_j6_m at hQ
  exact False.elim hok
def f_TX_count_v (M0 : Mem) (a1 : Int32) : Nat := (if (a1 = (0 : Int32)) then 0 else (if (a1 = (1 : Int32)) then 0 else (if (a1 = (2 : Int32)) then (if (M0 5 3) = 0 then (f_TX_count_j1_v (0 : Int32)) else (f_TX_count_j1_v (1 : Int32))) else (if (a1 = (3 : Int32)) then (if (M0 5 4) = 0 then (f_TX_count_j2_v (0 : Int32)) else (f_TX_count_j2_v (1 : Int32))) else (if (a1 = (4 : Int32)) then (if (M0 5 5) = 0 then (f_TX_count_j3_v (0 : Int32)) else (f_TX_count_j3_v (1 : Int32))) else (if (a1 = (5 : Int32)) then (if (M0 1 2) = 0 then (f_TX_count_j4_v (0 : Int32)) else (f_TX_count_j4_v (M0 1 5))) else (if (a1 = (6 : Int32)) then (if (M0 1 2) = 0 then (f_TX_count_j5_v (0 : Int32)) else (f_TX_count_j5_v (M0 1 6))) else (if (a1 = (7 : Int32)) then (if (M0 1 4) = 0 then (f_TX_count_j6_v (0 : Int32)) else (f_TX_count_j6_v (1 : Int32))) else (if (a1 = (8 : Int32)) then 0 else 0)))))))))
def f_TX_count_m (M0 : Mem) (a1 : Int32) : Mem := (if (a1 = (0 : Int32)) then (fun _ _ => 0) else (if (a1 = (1 : Int32)) then (fun _ _ => 0) else (if (a1 = (2 : Int32)) then (if (M0 5 3) = 0 then (f_TX_count_j1_m (0 : Int32)) else (f_TX_count_j1_m (1 : Int32))) else (if (a1 = (3 : Int32)) then (if (M0 5 4) = 0 then (f_TX_count_j2_m (0 : Int32)) else (f_TX_count_j2_m (1 : Int32))) else (if (a1 = (4 : Int32)) then (if (M0 5 5) = 0 then (f_TX_count_j3_m (0 : Int32)) else (f_TX_count_j3_m (1 : Int32))) else (if (a1 = (5 : Int32)) then (if (M0 1 2) = 0 then (f_TX_count_j4_m (0 : Int32)) else (f_TX_count_j4_m (M0 1 5))) else (if (a1 = (6 : Int32)) then (if (M0 1 2) = 0 then (f_TX_count_j5_m (0 : Int32)) else (f_TX_count_j5_m (M0 1 6))) else (if (a1 = (7 : Int32)) then (if (M0 1 4) = 0 then (f_TX_count_j6_m (0 : Int32)) else (f_TX_count_j6_m (1 : Int32))) else (if (a1 = (8 : Int32)) then (fun _ _ => 0) else M0)))))))))
def ok_TX_count (M0 : Mem) (a1 : Int32) : Prop := ((((a1 = (0 : Int32))) → False) ∧ ((¬ (a1 = (0 : Int32))) → ((((a1 = (1 : Int32))) → False) ∧ ((¬ (a1 = (1 : Int32))) → ((((a1 = (2 : Int32))) → ((((M0 5 3) = 0) → ok_TX_count_j1 (0 : Int32)) ∧ ((¬ (M0 5 3) = 0) → ok_TX_count_j1 (1 : Int32)))) ∧ ((¬ (a1 = (2 : Int32))) → ((((a1 = (3 : Int32))) → ((((M0 5 4) = 0) → ok_TX_count_j2 (0 : Int32)) ∧ ((¬ (M0 5 4) = 0) → ok_TX_count_j2 (1 : Int32)))) ∧ ((¬ (a1 = (3 : Int32))) → ((((a1 = (4 : Int32))) → ((((M0 5 5) = 0) → ok_TX_count_j3 (0 : Int32)) ∧ ((¬ (M0 5 5) = 0) → ok_TX_count_j3 (1 : Int32)))) ∧ ((¬ (a1 = (4 : Int32))) → ((((a1 = (5 : Int32))) → ((((M0 1 2) = 0) → ok_TX_count_j4 (0 : Int32)) ∧ ((¬ (M0 1 2) = 0) → ok_TX_count_j4 (M0 1 5)))) ∧ ((¬ (a1 = (5 : Int32))) → ((((a1 = (6 : Int32))) → ((((M0 1 2) = 0) → ok_TX_count_j5 (0 : Int32)) ∧ ((¬ (M0 1 2) = 0) → ok_TX_count_j5 (M0 1 6)))) ∧ ((¬ (a1 = (6 : Int32))) → ((((a1 = (7 : Int32))) → ((((M0 1 4) = 0) → ok_TX_count_j6 (0 : Int32)) ∧ ((¬ (M0 1 4) = 0) → ok_TX_count_j6 (1 : Int32)))) ∧ ((¬ (a1 = (7 : Int32))) → ((((a1 = (8 : Int32))) → False) ∧ ((¬ (a1 = (8 : Int32))) → True))))))))))))))))))
set_option maxRecDepth 100000 in
set_option maxHeartbeats 4000000 in
theorem sp_TX_count (M0 : Mem) (a1 : Int32) (Q : Nat → Mem → Prop) (hok : ok_TX_count M0 a1) (hQ : Q (f_TX_count_v M0 a1) (f_TX_count_m M0 a1)) : wp_TX_count M0 a1 Q := by
  unfold wp_TX_count
  unfold ok_TX_count at hok
  unfold f_TX_count_v f_TX_count_m at hQ
  refine ⟨fun hc => ?_, fun hc => ?_⟩
  · simp only [if_pos hc] at hQ
    have hok := hok.1 hc
    exact False.elim hok
  · simp only [if_neg hc] at hQ
    have hok := hok.2 hc
    refine ⟨fun hc => ?_, fun hc => ?_⟩
    · simp only [if_pos hc] at hQ
      have hok := hok.1 hc
      exact False.elim hok
    · simp only [if_neg hc] at hQ
      have hok := hok.2 hc
      refine ⟨fun hc => ?_, fun hc => ?_⟩
      · simp only [if_pos hc] at hQ
        have hok := hok.1 hc
        refine ⟨fun hc => ?_, fun hc => ?_⟩
        · simp only [if_pos hc] at hQ
          have hok := hok.1 hc
          exact sp_TX_count_j1 _ _ hok hQ
        · simp only [if_neg hc] at hQ
          have hok := hok.2 hc
          exact sp_TX_count_j1 _ _ hok hQ
      · simp only [if_neg hc] at hQ
        have hok := hok.2 hc
        refine ⟨fun hc => ?_, fun hc => ?_⟩
        · simp only [if_pos hc] at hQ
          have hok := hok.1 hc
          refine ⟨fun hc => ?_, fun hc => ?_⟩
          · simp only [if_pos hc] at hQ
            have hok := hok.1 hc
            exact sp_TX_count_j2 _ _ hok hQ
          · simp only [if_neg hc] at hQ
            have hok := hok.2 hc
            exact sp_TX_count_j2 _ _ hok hQ
        · simp only [if_neg hc] at hQ
          have hok := hok.2 hc
          refine ⟨fun hc => ?_, fun hc => ?_⟩
          · simp only [if_pos hc] at hQ
            have hok := hok.1 hc
            refine ⟨fun hc => ?_, fun hc => ?_⟩
            · simp only [if_pos hc] at hQ
              have hok := hok.1 hc
              exact sp_TX_count_j3 _ _ hok hQ
            · simp only [if_neg hc] at hQ
              have hok := hok.2 hc
              exact sp_TX_count_j3 _ _ hok hQ
          · simp only [if_neg hc] at hQ
            have hok := hok.2 hc
            refine ⟨fun hc => ?_, fun hc => ?_⟩
            · simp only [if_pos hc] at hQ
              have hok := hok.1 hc
              refine ⟨fun hc => ?_, fun hc => ?_⟩
              · simp only [if_pos hc] at hQ
                have hok := hok.1 hc
                exact sp_TX_count_j4 _ _ hok hQ
              · simp only [if_neg hc] at hQ
                have hok := hok.2 hc
                exact sp_TX_count_j4 _ _ hok hQ
            · simp only [if_neg hc] at hQ
              have hok := hok.2 hc
              refine ⟨fun hc => ?_, fun hc => ?_⟩
              · simp only [if_pos hc] at hQ
                have hok := hok.1 hc
                refine ⟨fun hc => ?_, fun hc => ?_⟩
                · simp only [if_pos hc] at hQ
                  have hok := hok.1 hc
                  exact sp_TX_count_j5 _ _ hok hQ
                · simp only [if_neg hc] at hQ
                  have hok := hok.2 hc
                  exact sp_TX_count_j5 _ _ hok hQ
              · simp only [if_neg hc] at hQ
                have hok := hok.2 hc
                refine ⟨fun hc => ?_, fun hc => ?_⟩
                · simp only [if_pos hc] at hQ
                  have hok := hok.1 hc
                  refine ⟨fun hc => ?_, fun hc => ?_⟩
                  · simp only [if_pos hc] at hQ
                    have hok := hok.1 hc
                    exact sp_TX_count_j6 _ _ hok hQ
                  · simp only [if_neg hc] at hQ
                    have hok := hok.2 hc
                    exact sp_TX_count_j6 _ _ hok hQ
                · simp only [if_neg hc] at hQ
                  have hok := hok.2 hc
                  refine ⟨fun hc => ?_, fun hc => ?_⟩
                  · simp only [if_pos hc] at hQ
                    have hok := hok.1 hc
                    exact False.elim hok
                  · simp only [if_neg hc] at hQ
                    exact hQ
def f_TX_speed_v (M0 : Mem) : Nat := (if (M0 5 0) = 0 then 4 else 0)
def f_TX_speed_m (M0 : Mem) : Mem := (if (M0 5 0) = 0 then M0 else (fun _ _ => 0))
def ok_TX_speed (M0 : Mem) : Prop := (((¬ (M0 5 0) = 0) → vf_n64 (FP.ddiv (4697254411347427328 : UInt64) (FP.i2d (M0 5 0))) ∧ (vf_n64 (FP.dmul (FP.ddiv (4697254411347427328 : UInt64) (FP.i2d (M0 5 0))) (FP.i2d (M0 2 1))) ∧ (False))) ∧ (((M0 5 0) = 0) → True))
set_option maxRecDepth 100000 in
set_option maxHeartbeats 4000000 in
theorem sp_TX_speed (M0 : Mem) (Q : Nat → Mem → Prop) (hok : ok_TX_speed M0) (hQ : Q (f_TX_speed_v M0) (f_TX_speed_m M0)) : wp_TX_speed M0 Q := by
  unfold wp_TX_speed
  unfold ok_TX_speed at hok
  unfold f_TX_speed_v f_TX_speed_m at hQ
  refine ⟨fun hc => ?_, fun hc => ?_⟩
  · simp only [if_neg hc] at hQ
    have hok := hok.1 hc
    refine ⟨hok.1, ?_⟩
    have hok := hok.2
    refine ⟨hok.1, ?_⟩
    have hok := hok.2
    exact False.elim hok
  · simp only [if_pos hc] at hQ
    exact hQ
