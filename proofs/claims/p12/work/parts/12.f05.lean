def f_R_insert_j2_v (M50 : Mem) : Int32 := (0 : Int32)
def f_R_insert_j2_m (M50 : Mem) : Mem := M50
set_option maxRecDepth 100000 in
set_option maxHeartbeats 4000000 in
theorem sp_R_insert_j2 (M50 : Mem) (Q : Int32 → Mem → Prop) (hQ : Q (f_R_insert_j2_v M50) (f_R_insert_j2_m M50)) : wp_R_insert_j2 M50 Q := by
  unfold wp_R_insert_j2
  unfold f_R_insert_j2_v f_R_insert_j2_m at hQ
  exact hQ
def f_R_insert_j3_v (a1 : Int32) (M36 : Mem) (x57 : Int32) : Int32 := let x58 : Int32 := f_R_fails_v M36 x57 (2 : Int32); let M59 : Mem := f_R_fails_m M36 x57 (2 : Int32); (if x58 = 0 then (1 : Int32) else (f_R_insert_j2_v M59))
def f_R_insert_j3_m (a1 : Int32) (M36 : Mem) (x57 : Int32) : Mem := let x58 : Int32 := f_R_fails_v M36 x57 (2 : Int32); let M59 : Mem := f_R_fails_m M36 x57 (2 : Int32); (if x58 = 0 then let M60 : Mem := mst M59 0 8 (1 : Int32); let M61 : Mem := mst M60 0 10 a1; let M62 : Mem := f_R_reset_m M61; M62 else (f_R_insert_j2_m M59))
def ok_R_insert_j3 (a1 : Int32) (M36 : Mem) (x57 : Int32) : Prop := ok_R_fails M36 x57 (2 : Int32) ∧ (∀ x58 : Int32, x58 = f_R_fails_v M36 x57 (2 : Int32) → ∀ M59 : Mem, M59 = f_R_fails_m M36 x57 (2 : Int32) → (((x58 = 0) → ∀ M60 : Mem, M60 = mst M59 0 8 (1 : Int32) → ∀ M61 : Mem, M61 = mst M60 0 10 a1 → ok_R_reset M61) ∧ ((¬ x58 = 0) → True)))
set_option maxRecDepth 100000 in
set_option maxHeartbeats 4000000 in
theorem sp_R_insert_j3 (a1 : Int32) (M36 : Mem) (x57 : Int32) (Q : Int32 → Mem → Prop) (hok : ok_R_insert_j3 a1 M36 x57) (hQ : Q (f_R_insert_j3_v a1 M36 x57) (f_R_insert_j3_m a1 M36 x57)) : wp_R_insert_j3 a1 M36 x57 Q := by
  unfold wp_R_insert_j3
  unfold ok_R_insert_j3 at hok
  unfold f_R_insert_j3_v f_R_insert_j3_m at hQ
  refine sp_R_fails _ _ _ _ hok.1 ?_
  have hok := hok.2 _ rfl _ rfl
  refine ⟨fun hc => ?_, fun hc => ?_⟩
  · simp only [if_pos hc] at hQ
    have hok := hok.1 hc
    intro M60 h_; subst h_
    have hok := hok _ rfl
    intro M61 h_; subst h_
    have hok := hok _ rfl
    refine sp_R_reset _ _ hok ?_
    exact hQ
  · simp only [if_neg hc] at hQ
    exact sp_R_insert_j2 _ _ hQ
def f_R_insert_j1_v (a1 : Int32) (M1 : Mem) (x2 : Int32) (x34 : Int32) : Int32 := let x35 : Int32 := f_R_fails_v M1 x34 (1 : Int32); let M36 : Mem := f_R_fails_m M1 x34 (1 : Int32); (if x35 = 0 then (if (x2 &&& (255 : Int32)) = (M36 1 333) then (f_R_insert_j3_v a1 M36 (0 : Int32)) else (f_R_insert_j3_v a1 M36 (1 : Int32))) else (f_R_insert_j2_v M36))
def f_R_insert_j1_m (a1 : Int32) (M1 : Mem) (x2 : Int32) (x34 : Int32) : Mem := let x35 : Int32 := f_R_fails_v M1 x34 (1 : Int32); let M36 : Mem := f_R_fails_m M1 x34 (1 : Int32); (if x35 = 0 then (if (x2 &&& (255 : Int32)) = (M36 1 333) then (f_R_insert_j3_m a1 M36 (0 : Int32)) else (f_R_insert_j3_m a1 M36 (1 : Int32))) else (f_R_insert_j2_m M36))
def ok_R_insert_j1 (a1 : Int32) (M1 : Mem) (x2 : Int32) (x34 : Int32) : Prop := ok_R_fails M1 x34 (1 : Int32) ∧ (∀ x35 : Int32, x35 = f_R_fails_v M1 x34 (1 : Int32) → ∀ M36 : Mem, M36 = f_R_fails_m M1 x34 (1 : Int32) → (((¬ x35 = 0) → True) ∧ ((x35 = 0) → ((((x2 &&& (255 : Int32)) = (M36 1 333)) → ok_R_insert_j3 a1 M36 (0 : Int32)) ∧ ((¬ (x2 &&& (255 : Int32)) = (M36 1 333)) → ok_R_insert_j3 a1 M36 (1 : Int32))))))
set_option maxRecDepth 100000 in
set_option maxHeartbeats 4000000 in
theorem sp_R_insert_j1 (a1 : Int32) (M1 : Mem) (x2 : Int32) (x34 : Int32) (Q : Int32 → Mem → Prop) (hok : ok_R_insert_j1 a1 M1 x2 x34) (hQ : Q (f_R_insert_j1_v a1 M1 x2 x34) (f_R_insert_j1_m a1 M1 x2 x34)) : wp_R_insert_j1 a1 M1 x2 x34 Q := by
  unfold wp_R_insert_j1
  unfold ok_R_insert_j1 at hok
  unfold f_R_insert_j1_v f_R_insert_j1_m at hQ
  refine sp_R_fails _ _ _ _ hok.1 ?_
  have hok := hok.2 _ rfl _ rfl
  refine ⟨fun hc => ?_, fun hc => ?_⟩
  · simp only [if_neg hc] at hQ
    exact sp_R_insert_j2 _ _ hQ
  · simp only [if_pos hc] at hQ
    have hok := hok.2 hc
    refine ⟨fun hc => ?_, fun hc => ?_⟩
    · simp only [if_pos hc] at hQ
      have hok := hok.1 hc
      exact sp_R_insert_j3 _ _ _ _ hok hQ
    · simp only [if_neg hc] at hQ
      have hok := hok.2 hc
      exact sp_R_insert_j3 _ _ _ _ hok hQ
def f_R_insert_l1_v (a1 : Int32) (M1 : Mem) (n : Nat) : Int32 → Int32 → Int32 := Nat.rec (motive := fun _ => Int32 → Int32 → Int32) (fun _ _ => 0) (fun _ K1_v x2 x3 => (if (333 : Int32) ≤ x3 then let x4 : Int32 := f_R_in_v M1 a1 (0 : Int32) (3 : Int32); (if x4 = 0 then (f_R_insert_j1_v a1 M1 x2 (1 : Int32)) else (f_R_insert_j1_v a1 M1 x2 (0 : Int32))) else let x63 : Int32 := ((x2 - (M1 1 x3.toNatClampNeg)) - (1 : Int32)); let x64 : Int32 := x3 + (1 : Int32); (K1_v x63 x64))) n
theorem f_R_insert_l1_v_s (a1 : Int32) (M1 : Mem) (n : Nat) (x2 : Int32) (x3 : Int32) : f_R_insert_l1_v a1 M1 (n + 1) x2 x3 = (let K1_v : Int32 → Int32 → Int32 := f_R_insert_l1_v a1 M1 n; (if (333 : Int32) ≤ x3 then let x4 : Int32 := f_R_in_v M1 a1 (0 : Int32) (3 : Int32); (if x4 = 0 then (f_R_insert_j1_v a1 M1 x2 (1 : Int32)) else (f_R_insert_j1_v a1 M1 x2 (0 : Int32))) else let x63 : Int32 := ((x2 - (M1 1 x3.toNatClampNeg)) - (1 : Int32)); let x64 : Int32 := x3 + (1 : Int32); (K1_v x63 x64))) := rfl
def f_R_insert_l1_m (a1 : Int32) (M1 : Mem) (n : Nat) : Int32 → Int32 → Mem := Nat.rec (motive := fun _ => Int32 → Int32 → Mem) (fun _ _ => (fun _ _ => 0)) (fun _ K1_m x2 x3 => (if (333 : Int32) ≤ x3 then let x4 : Int32 := f_R_in_v M1 a1 (0 : Int32) (3 : Int32); (if x4 = 0 then (f_R_insert_j1_m a1 M1 x2 (1 : Int32)) else (f_R_insert_j1_m a1 M1 x2 (0 : Int32))) else let x63 : Int32 := ((x2 - (M1 1 x3.toNatClampNeg)) - (1 : Int32)); let x64 : Int32 := x3 + (1 : Int32); (K1_m x63 x64))) n
theorem f_R_insert_l1_m_s (a1 : Int32) (M1 : Mem) (n : Nat) (x2 : Int32) (x3 : Int32) : f_R_insert_l1_m a1 M1 (n + 1) x2 x3 = (let K1_m : Int32 → Int32 → Mem := f_R_insert_l1_m a1 M1 n; (if (333 : Int32) ≤ x3 then let x4 : Int32 := f_R_in_v M1 a1 (0 : Int32) (3 : Int32); (if x4 = 0 then (f_R_insert_j1_m a1 M1 x2 (1 : Int32)) else (f_R_insert_j1_m a1 M1 x2 (0 : Int32))) else let x63 : Int32 := ((x2 - (M1 1 x3.toNatClampNeg)) - (1 : Int32)); let x64 : Int32 := x3 + (1 : Int32); (K1_m x63 x64))) := rfl
def ok_R_insert_l1 (a1 : Int32) (M1 : Mem) (n : Nat) : Int32 → Int32 → Prop := Nat.rec (motive := fun _ => Int32 → Int32 → Prop) (fun _ _ => False) (fun _ K1_ok x2 x3 => ((((333 : Int32) ≤ x3) → ok_R_in M1 a1 (0 : Int32) (3 : Int32) ∧ (∀ x4 : Int32, x4 = f_R_in_v M1 a1 (0 : Int32) (3 : Int32) → (((¬ x4 = 0) → ok_R_insert_j1 a1 M1 x2 (0 : Int32)) ∧ ((x4 = 0) → ok_R_insert_j1 a1 M1 x2 (1 : Int32))))) ∧ ((¬ (333 : Int32) ≤ x3) → vp_in x3 8192 ∧ (∀ x63 : Int32, x63 = ((x2 - (M1 1 x3.toNatClampNeg)) - (1 : Int32)) → ∀ x64 : Int32, x64 = x3 + (1 : Int32) → K1_ok x63 x64)))) n
set_option maxRecDepth 100000 in
set_option maxHeartbeats 4000000 in
theorem sp_R_insert_l1 (a1 : Int32) (M1 : Mem) {Q : Int32 → Mem → Prop} : ∀ (n : Nat) (x2 : Int32) (x3 : Int32), ok_R_insert_l1 a1 M1 n x2 x3 → Q (f_R_insert_l1_v a1 M1 n x2 x3) (f_R_insert_l1_m a1 M1 n x2 x3) → wp_R_insert_l1 a1 M1 Q n x2 x3 := by
  intro n
  induction n with
  | zero => intro x2 x3 hok; exact False.elim hok
  | succ n ih =>
    intro x2 x3 hok hQ
    have hK1 := ih
    rw [f_R_insert_l1_v_s, f_R_insert_l1_m_s] at hQ
    refine ⟨fun hc => ?_, fun hc => ?_⟩
    · simp only [if_pos hc] at hQ
      have hok := hok.1 hc
      refine sp_R_in _ _ _ _ _ hok.1 ?_
      have hok := hok.2 _ rfl
      refine ⟨fun hc => ?_, fun hc => ?_⟩
      · simp only [if_neg hc] at hQ
        have hok := hok.1 hc
        exact sp_R_insert_j1 _ _ _ _ _ hok hQ
      · simp only [if_pos hc] at hQ
        have hok := hok.2 hc
        exact sp_R_insert_j1 _ _ _ _ _ hok hQ
    · simp only [if_neg hc] at hQ
      have hok := hok.2 hc
      refine ⟨hok.1, ?_⟩
      have hok := hok.2
      intro x63 h_; subst h_
      have hok := hok _ rfl
      intro x64 h_; subst h_
      have hok := hok _ rfl
      exact hK1 _ _  hok hQ
def f_R_insert_v (M0 : Mem) (a1 : Int32) : Int32 := let M1 : Mem := mst M0 0 0 (0 : Int32); (f_R_insert_l1_v a1 M1 26 (0 : Int32) (308 : Int32))
def f_R_insert_m (M0 : Mem) (a1 : Int32) : Mem := let M1 : Mem := mst M0 0 0 (0 : Int32); (f_R_insert_l1_m a1 M1 26 (0 : Int32) (308 : Int32))
def ok_R_insert (M0 : Mem) (a1 : Int32) : Prop := ∀ M1 : Mem, M1 = mst M0 0 0 (0 : Int32) → ok_R_insert_l1 a1 M1 26 (0 : Int32) (308 : Int32)
set_option maxRecDepth 100000 in
set_option maxHeartbeats 4000000 in
theorem sp_R_insert (M0 : Mem) (a1 : Int32) (Q : Int32 → Mem → Prop) (hok : ok_R_insert M0 a1) (hQ : Q (f_R_insert_v M0 a1) (f_R_insert_m M0 a1)) : wp_R_insert M0 a1 Q := by
  unfold wp_R_insert
  unfold ok_R_insert at hok
  unfold f_R_insert_v f_R_insert_m at hQ
  intro M1 h_; subst h_
  have hok := hok _ rfl
  exact ⟨_, sp_R_insert_l1 _ _ _ _ _  hok hQ⟩
def f_R_run_j2_v (M180 : Mem) : Int32 := (0 : Int32)
def f_R_run_j2_m (M180 : Mem) : Mem := M180
set_option maxRecDepth 100000 in
set_option maxHeartbeats 4000000 in
theorem sp_R_run_j2 (M180 : Mem) (Q : Int32 → Mem → Prop) (hQ : Q (f_R_run_j2_v M180) (f_R_run_j2_m M180)) : wp_R_run_j2 M180 Q := by
  unfold wp_R_run_j2
  unfold f_R_run_j2_v f_R_run_j2_m at hQ
  exact hQ
def f_R_run_l2_v (x214 : Int32) (x215 : Int32) (K1_v : Int32 → Int32 → Mem → Int32) (n : Nat) : Int32 → Mem → Int32 := Nat.rec (motive := fun _ => Int32 → Mem → Int32) (fun _ _ => 0) (fun _ K2_v x231 M232 => (if (M232 0 20) ≤ x231 then let x233 : Int32 := (x214 + (M232 0 20)); let x234 : Int32 := x215 + (1 : Int32); (K1_v x233 x234 M232) else let M235 : Mem := f_R_cycle_m M232; let x236 : Int32 := x231 + (1 : Int32); (K2_v x236 M235))) n
theorem f_R_run_l2_v_s (x214 : Int32) (x215 : Int32) (K1_v : Int32 → Int32 → Mem → Int32) (n : Nat) (x231 : Int32) (M232 : Mem) : f_R_run_l2_v x214 x215 K1_v (n + 1) x231 M232 = (let K2_v : Int32 → Mem → Int32 := f_R_run_l2_v x214 x215 K1_v n; (if (M232 0 20) ≤ x231 then let x233 : Int32 := (x214 + (M232 0 20)); let x234 : Int32 := x215 + (1 : Int32); (K1_v x233 x234 M232) else let M235 : Mem := f_R_cycle_m M232; let x236 : Int32 := x231 + (1 : Int32); (K2_v x236 M235))) := rfl
def f_R_run_l2_m (x214 : Int32) (x215 : Int32) (K1_m : Int32 → Int32 → Mem → Mem) (n : Nat) : Int32 → Mem → Mem := Nat.rec (motive := fun _ => Int32 → Mem → Mem) (fun _ _ => (fun _ _ => 0)) (fun _ K2_m x231 M232 => (if (M232 0 20) ≤ x231 then let x233 : Int32 := (x214 + (M232 0 20)); let x234 : Int32 := x215 + (1 : Int32); (K1_m x233 x234 M232) else let M235 : Mem := f_R_cycle_m M232; let x236 : Int32 := x231 + (1 : Int32); (K2_m x236 M235))) n
theorem f_R_run_l2_m_s (x214 : Int32) (x215 : Int32) (K1_m : Int32 → Int32 → Mem → Mem) (n : Nat) (x231 : Int32) (M232 : Mem) : f_R_run_l2_m x214 x215 K1_m (n + 1) x231 M232 = (let K2_m : Int32 → Mem → Mem := f_R_run_l2_m x214 x215 K1_m n; (if (M232 0 20) ≤ x231 then let x233 : Int32 := (x214 + (M232 0 20)); let x234 : Int32 := x215 + (1 : Int32); (K1_m x233 x234 M232) else let M235 : Mem := f_R_cycle_m M232; let x236 : Int32 := x231 + (1 : Int32); (K2_m x236 M235))) := rfl
def ok_R_run_l2 (x214 : Int32) (x215 : Int32) (K1_ok : Int32 → Int32 → Mem → Prop) (n : Nat) : Int32 → Mem → Prop := Nat.rec (motive := fun _ => Int32 → Mem → Prop) (fun _ _ => False) (fun _ K2_ok x231 M232 => ((((M232 0 20) ≤ x231) → ∀ x233 : Int32, x233 = (x214 + (M232 0 20)) → ∀ x234 : Int32, x234 = x215 + (1 : Int32) → K1_ok x233 x234 M232) ∧ ((¬ (M232 0 20) ≤ x231) → ok_R_cycle M232 ∧ (∀ M235 : Mem, M235 = f_R_cycle_m M232 → ∀ x236 : Int32, x236 = x231 + (1 : Int32) → K2_ok x236 M235)))) n
set_option maxRecDepth 100000 in
set_option maxHeartbeats 4000000 in
theorem sp_R_run_l2 (x214 : Int32) (x215 : Int32) {Q : Int32 → Mem → Prop} (K1 : Int32 → Int32 → Mem → Prop) (K1_v : Int32 → Int32 → Mem → Int32) (K1_m : Int32 → Int32 → Mem → Mem) (K1_ok : Int32 → Int32 → Mem → Prop) (hK1 : ∀ (z0 : Int32) (z1 : Int32) (z2 : Mem), K1_ok z0 z1 z2 → Q (K1_v z0 z1 z2) (K1_m z0 z1 z2) → K1 z0 z1 z2) : ∀ (n : Nat) (x231 : Int32) (M232 : Mem), ok_R_run_l2 x214 x215 K1_ok n x231 M232 → Q (f_R_run_l2_v x214 x215 K1_v n x231 M232) (f_R_run_l2_m x214 x215 K1_m n x231 M232) → wp_R_run_l2 x214 x215 K1 Q n x231 M232 := by
  intro n
  induction n with
  | zero => intro x231 M232 hok; exact False.elim hok
  | succ n ih =>
    intro x231 M232 hok hQ
    have hK2 := ih
    rw [f_R_run_l2_v_s, f_R_run_l2_m_s] at hQ
    refine ⟨fun hc => ?_, fun hc => ?_⟩
    · simp only [if_pos hc] at hQ
      have hok := hok.1 hc
      intro x233 h_; subst h_
      have hok := hok _ rfl
      intro x234 h_; subst h_
      have hok := hok _ rfl
      exact hK1 _ _ _  hok hQ
    · simp only [if_neg hc] at hQ
      have hok := hok.2 hc
      refine sp_R_cycle _ _ hok.1 ?_
      have hok := hok.2 _ rfl
      intro x236 h_; subst h_
      have hok := hok _ rfl
      exact hK2 _ _  hok hQ
def f_R_run_j4_v (x214 : Int32) (x215 : Int32) (M218 : Mem) (K1_v : Int32 → Int32 → Mem → Int32) (x228 : Int32) : Int32 := let x229 : Int32 := f_R_fails_v M218 x228 (3 : Int32); let M230 : Mem := f_R_fails_m M218 x228 (3 : Int32); (if x229 = 0 then (f_R_run_l2_v x214 x215 K1_v ((M230 0 20).toNatClampNeg + 1) (0 : Int32) M230) else (0 : Int32))
def f_R_run_j4_m (x214 : Int32) (x215 : Int32) (M218 : Mem) (K1_m : Int32 → Int32 → Mem → Mem) (x228 : Int32) : Mem := let x229 : Int32 := f_R_fails_v M218 x228 (3 : Int32); let M230 : Mem := f_R_fails_m M218 x228 (3 : Int32); (if x229 = 0 then (f_R_run_l2_m x214 x215 K1_m ((M230 0 20).toNatClampNeg + 1) (0 : Int32) M230) else M230)
def ok_R_run_j4 (x214 : Int32) (x215 : Int32) (M218 : Mem) (K1_ok : Int32 → Int32 → Mem → Prop) (x228 : Int32) : Prop := ok_R_fails M218 x228 (3 : Int32) ∧ (∀ x229 : Int32, x229 = f_R_fails_v M218 x228 (3 : Int32) → ∀ M230 : Mem, M230 = f_R_fails_m M218 x228 (3 : Int32) → (((x229 = 0) → ok_R_run_l2 x214 x215 K1_ok ((M230 0 20).toNatClampNeg + 1) (0 : Int32) M230) ∧ ((¬ x229 = 0) → True)))
set_option maxRecDepth 100000 in
set_option maxHeartbeats 4000000 in
theorem sp_R_run_j4 (x214 : Int32) (x215 : Int32) (M218 : Mem) {Q : Int32 → Mem → Prop} (K1 : Int32 → Int32 → Mem → Prop) (K1_v : Int32 → Int32 → Mem → Int32) (K1_m : Int32 → Int32 → Mem → Mem) (K1_ok : Int32 → Int32 → Mem → Prop) (hK1 : ∀ (z0 : Int32) (z1 : Int32) (z2 : Mem), K1_ok z0 z1 z2 → Q (K1_v z0 z1 z2) (K1_m z0 z1 z2) → K1 z0 z1 z2) (x228 : Int32) (hok : ok_R_run_j4 x214 x215 M218 K1_ok x228) (hQ : Q (f_R_run_j4_v x214 x215 M218 K1_v x228) (f_R_run_j4_m x214 x215 M218 K1_m x228)) : wp_R_run_j4 x214 x215 M218 K1 x228 Q := by
  unfold wp_R_run_j4
  unfold ok_R_run_j4 at hok
  unfold f_R_run_j4_v f_R_run_j4_m at hQ
  refine sp_R_fails _ _ _ _ hok.1 ?_
  have hok := hok.2 _ rfl _ rfl
  refine ⟨fun hc => ?_, fun hc => ?_⟩
  · simp only [if_pos hc] at hQ
    have hok := hok.1 hc
    exact ⟨_, sp_R_run_l2 _ _ _ _ _ _ hK1 _ _ _  hok hQ⟩
  · simp only [if_neg hc] at hQ
    exact hQ
def f_R_run_l1_v (a1 : Int32) (n : Nat) : Int32 → Int32 → Mem → Int32 := Nat.rec (motive := fun _ => Int32 → Int32 → Mem → Int32) (fun _ _ _ => 0) (fun _ K1_v x214 x215 M216 => (if a1 ≤ x215 then x214 else let x217 : Int32 := f_R_step_v M216; let M218 : Mem := f_R_step_m M216; (if x217 = 0 then (f_R_run_j4_v x214 x215 M218 K1_v (1 : Int32)) else (f_R_run_j4_v x214 x215 M218 K1_v (0 : Int32))))) n
theorem f_R_run_l1_v_s (a1 : Int32) (n : Nat) (x214 : Int32) (x215 : Int32) (M216 : Mem) : f_R_run_l1_v a1 (n + 1) x214 x215 M216 = (let K1_v : Int32 → Int32 → Mem → Int32 := f_R_run_l1_v a1 n; (if a1 ≤ x215 then x214 else let x217 : Int32 := f_R_step_v M216; let M218 : Mem := f_R_step_m M216; (if x217 = 0 then (f_R_run_j4_v x214 x215 M218 K1_v (1 : Int32)) else (f_R_run_j4_v x214 x215 M218 K1_v (0 : Int32))))) := rfl
def f_R_run_l1_m (a1 : Int32) (n : Nat) : Int32 → Int32 → Mem → Mem := Nat.rec (motive := fun _ => Int32 → Int32 → Mem → Mem) (fun _ _ _ => (fun _ _ => 0)) (fun _ K1_m x214 x215 M216 => (if a1 ≤ x215 then M216 else let x217 : Int32 := f_R_step_v M216; let M218 : Mem := f_R_step_m M216; (if x217 = 0 then (f_R_run_j4_m x214 x215 M218 K1_m (1 : Int32)) else (f_R_run_j4_m x214 x215 M218 K1_m (0 : Int32))))) n
theorem f_R_run_l1_m_s (a1 : Int32) (n : Nat) (x214 : Int32) (x215 : Int32) (M216 : Mem) : f_R_run_l1_m a1 (n + 1) x214 x215 M216 = (let K1_m : Int32 → Int32 → Mem → Mem := f_R_run_l1_m a1 n; (if a1 ≤ x215 then M216 else let x217 : Int32 := f_R_step_v M216; let M218 : Mem := f_R_step_m M216; (if x217 = 0 then (f_R_run_j4_m x214 x215 M218 K1_m (1 : Int32)) else (f_R_run_j4_m x214 x215 M218 K1_m (0 : Int32))))) := rfl
def ok_R_run_l1 (a1 : Int32) (n : Nat) : Int32 → Int32 → Mem → Prop := Nat.rec (motive := fun _ => Int32 → Int32 → Mem → Prop) (fun _ _ _ => False) (fun _ K1_ok x214 x215 M216 => (((a1 ≤ x215) → True) ∧ ((¬ a1 ≤ x215) → ok_R_step M216 ∧ (∀ x217 : Int32, x217 = f_R_step_v M216 → ∀ M218 : Mem, M218 = f_R_step_m M216 → (((¬ x217 = 0) → ok_R_run_j4 x214 x215 M218 K1_ok (0 : Int32)) ∧ ((x217 = 0) → ok_R_run_j4 x214 x215 M218 K1_ok (1 : Int32))))))) n
set_option maxRecDepth 100000 in
set_option maxHeartbeats 4000000 in
theorem sp_R_run_l1 (a1 : Int32) {Q : Int32 → Mem → Prop} : ∀ (n : Nat) (x214 : Int32) (x215 : Int32) (M216 : Mem), ok_R_run_l1 a1 n x214 x215 M216 → Q (f_R_run_l1_v a1 n x214 x215 M216) (f_R_run_l1_m a1 n x214 x215 M216) → wp_R_run_l1 a1 Q n x214 x215 M216 := by
  intro n
  induction n with
  | zero => intro x214 x215 M216 hok; exact False.elim hok
  | succ n ih =>
    intro x214 x215 M216 hok hQ
    have hK1 := ih
    rw [f_R_run_l1_v_s, f_R_run_l1_m_s] at hQ
    refine ⟨fun hc => ?_, fun hc => ?_⟩
    · simp only [if_pos hc] at hQ
      exact hQ
    · simp only [if_neg hc] at hQ
      have hok := hok.2 hc
      refine sp_R_step _ _ hok.1 ?_
      have hok := hok.2 _ rfl _ rfl
      refine ⟨fun hc => ?_, fun hc => ?_⟩
      · simp only [if_neg hc] at hQ
        have hok := hok.1 hc
        exact sp_R_run_j4 _ _ _ _ _ _ _ hK1 _  hok hQ
      · simp only [if_pos hc] at hQ
        have hok := hok.2 hc
        exact sp_R_run_j4 _ _ _ _ _ _ _ hK1 _  hok hQ
def f_R_run_j3_v (a1 : Int32) (M122 : Mem) (x209 : Int32) : Int32 := let x210 : Int32 := f_R_fails_v M122 x209 (2 : Int32); let M211 : Mem := f_R_fails_m M122 x209 (2 : Int32); (if x210 = 0 then let x212 : Int32 := f_R_fails_v M211 (M211 0 23) (3 : Int32); let M213 : Mem := f_R_fails_m M211 (M211 0 23) (3 : Int32); (if x212 = 0 then (f_R_run_l1_v a1 101 (0 : Int32) (0 : Int32) M213) else (f_R_run_j2_v M213)) else (f_R_run_j2_v M211))
def f_R_run_j3_m (a1 : Int32) (M122 : Mem) (x209 : Int32) : Mem := let x210 : Int32 := f_R_fails_v M122 x209 (2 : Int32); let M211 : Mem := f_R_fails_m M122 x209 (2 : Int32); (if x210 = 0 then let x212 : Int32 := f_R_fails_v M211 (M211 0 23) (3 : Int32); let M213 : Mem := f_R_fails_m M211 (M211 0 23) (3 : Int32); (if x212 = 0 then (f_R_run_l1_m a1 101 (0 : Int32) (0 : Int32) M213) else (f_R_run_j2_m M213)) else (f_R_run_j2_m M211))
def ok_R_run_j3 (a1 : Int32) (M122 : Mem) (x209 : Int32) : Prop := ok_R_fails M122 x209 (2 : Int32) ∧ (∀ x210 : Int32, x210 = f_R_fails_v M122 x209 (2 : Int32) → ∀ M211 : Mem, M211 = f_R_fails_m M122 x209 (2 : Int32) → (((¬ x210 = 0) → True) ∧ ((x210 = 0) → ok_R_fails M211 (M211 0 23) (3 : Int32) ∧ (∀ x212 : Int32, x212 = f_R_fails_v M211 (M211 0 23) (3 : Int32) → ∀ M213 : Mem, M213 = f_R_fails_m M211 (M211 0 23) (3 : Int32) → (((x212 = 0) → ok_R_run_l1 a1 101 (0 : Int32) (0 : Int32) M213) ∧ ((¬ x212 = 0) → True))))))
set_option maxRecDepth 100000 in
set_option maxHeartbeats 4000000 in
theorem sp_R_run_j3 (a1 : Int32) (M122 : Mem) (x209 : Int32) (Q : Int32 → Mem → Prop) (hok : ok_R_run_j3 a1 M122 x209) (hQ : Q (f_R_run_j3_v a1 M122 x209) (f_R_run_j3_m a1 M122 x209)) : wp_R_run_j3 a1 M122 x209 Q := by
  unfold wp_R_run_j3
  unfold ok_R_run_j3 at hok
  unfold f_R_run_j3_v f_R_run_j3_m at hQ
  refine sp_R_fails _ _ _ _ hok.1 ?_
  have hok := hok.2 _ rfl _ rfl
  refine ⟨fun hc => ?_, fun hc => ?_⟩
  · simp only [if_neg hc] at hQ
    exact sp_R_run_j2 _ _ hQ
  · simp only [if_pos hc] at hQ
    have hok := hok.2 hc
    refine sp_R_fails _ _ _ _ hok.1 ?_
    have hok := hok.2 _ rfl _ rfl
    refine ⟨fun hc => ?_, fun hc => ?_⟩
    · simp only [if_pos hc] at hQ
      have hok := hok.1 hc
      exact ⟨_, sp_R_run_l1 _ _ _ _ _  hok hQ⟩
    · simp only [if_neg hc] at hQ
      exact sp_R_run_j2 _ _ hQ
def f_R_run_j1_v (a1 : Int32) (M1 : Mem) (x120 : Int32) : Int32 := let x121 : Int32 := f_R_fails_v M1 x120 (1 : Int32); let M122 : Mem := f_R_fails_m M1 x120 (1 : Int32); (if x121 = 0 then (if (M122 0 8) = 0 then (f_R_run_j3_v a1 M122 (1 : Int32)) else (f_R_run_j3_v a1 M122 (0 : Int32))) else (f_R_run_j2_v M122))
def f_R_run_j1_m (a1 : Int32) (M1 : Mem) (x120 : Int32) : Mem := let x121 : Int32 := f_R_fails_v M1 x120 (1 : Int32); let M122 : Mem := f_R_fails_m M1 x120 (1 : Int32); (if x121 = 0 then (if (M122 0 8) = 0 then (f_R_run_j3_m a1 M122 (1 : Int32)) else (f_R_run_j3_m a1 M122 (0 : Int32))) else (f_R_run_j2_m M122))
def ok_R_run_j1 (a1 : Int32) (M1 : Mem) (x120 : Int32) : Prop := ok_R_fails M1 x120 (1 : Int32) ∧ (∀ x121 : Int32, x121 = f_R_fails_v M1 x120 (1 : Int32) → ∀ M122 : Mem, M122 = f_R_fails_m M1 x120 (1 : Int32) → (((¬ x121 = 0) → True) ∧ ((x121 = 0) → (((¬ (M122 0 8) = 0) → ok_R_run_j3 a1 M122 (0 : Int32)) ∧ (((M122 0 8) = 0) → ok_R_run_j3 a1 M122 (1 : Int32))))))
set_option maxRecDepth 100000 in
set_option maxHeartbeats 4000000 in
theorem sp_R_run_j1 (a1 : Int32) (M1 : Mem) (x120 : Int32) (Q : Int32 → Mem → Prop) (hok : ok_R_run_j1 a1 M1 x120) (hQ : Q (f_R_run_j1_v a1 M1 x120) (f_R_run_j1_m a1 M1 x120)) : wp_R_run_j1 a1 M1 x120 Q := by
  unfold wp_R_run_j1
  unfold ok_R_run_j1 at hok
  unfold f_R_run_j1_v f_R_run_j1_m at hQ
  refine sp_R_fails _ _ _ _ hok.1 ?_
  have hok := hok.2 _ rfl _ rfl
  refine ⟨fun hc => ?_, fun hc => ?_⟩
  · simp only [if_neg hc] at hQ
    exact sp_R_run_j2 _ _ hQ
  · simp only [if_pos hc] at hQ
    have hok := hok.2 hc
    refine ⟨fun hc => ?_, fun hc => ?_⟩
    · simp only [if_neg hc] at hQ
      have hok := hok.1 hc
      exact sp_R_run_j3 _ _ _ _ hok hQ
    · simp only [if_pos hc] at hQ
      have hok := hok.2 hc
      exact sp_R_run_j3 _ _ _ _ hok hQ
def f_R_run_v (M0 : Mem) (a1 : Int32) : Int32 := let M1 : Mem := mst M0 0 0 (0 : Int32); let x2 : Int32 := f_R_in_v M1 a1 (1 : Int32) (100 : Int32); (if x2 = 0 then (f_R_run_j1_v a1 M1 (1 : Int32)) else (f_R_run_j1_v a1 M1 (0 : Int32)))
def f_R_run_m (M0 : Mem) (a1 : Int32) : Mem := let M1 : Mem := mst M0 0 0 (0 : Int32); let x2 : Int32 := f_R_in_v M1 a1 (1 : Int32) (100 : Int32); (if x2 = 0 then (f_R_run_j1_m a1 M1 (1 : Int32)) else (f_R_run_j1_m a1 M1 (0 : Int32)))
def ok_R_run (M0 : Mem) (a1 : Int32) : Prop := ∀ M1 : Mem, M1 = mst M0 0 0 (0 : Int32) → ok_R_in M1 a1 (1 : Int32) (100 : Int32) ∧ (∀ x2 : Int32, x2 = f_R_in_v M1 a1 (1 : Int32) (100 : Int32) → (((¬ x2 = 0) → ok_R_run_j1 a1 M1 (0 : Int32)) ∧ ((x2 = 0) → ok_R_run_j1 a1 M1 (1 : Int32))))
set_option maxRecDepth 100000 in
set_option maxHeartbeats 4000000 in
theorem sp_R_run (M0 : Mem) (a1 : Int32) (Q : Int32 → Mem → Prop) (hok : ok_R_run M0 a1) (hQ : Q (f_R_run_v M0 a1) (f_R_run_m M0 a1)) : wp_R_run M0 a1 Q := by
  unfold wp_R_run
  unfold ok_R_run at hok
  unfold f_R_run_v f_R_run_m at hQ
  intro M1 h_; subst h_
  have hok := hok _ rfl
  refine sp_R_in _ _ _ _ _ hok.1 ?_
  have hok := hok.2 _ rfl
  refine ⟨fun hc => ?_, fun hc => ?_⟩
  · simp only [if_neg hc] at hQ
    have hok := hok.1 hc
    exact sp_R_run_j1 _ _ _ _ hok hQ
  · simp only [if_pos hc] at hQ
    have hok := hok.2 hc
    exact sp_R_run_j1 _ _ _ _ hok hQ
def f_R_registerAt_j1_v (x2 : Int32) : Int32 := x2
set_option maxRecDepth 100000 in
set_option maxHeartbeats 4000000 in
theorem sp_R_registerAt_j1 (x2 : Int32) (Q : Int32 → Prop) (hQ : Q (f_R_registerAt_j1_v x2)) : wp_R_registerAt_j1 x2 Q := by
  unfold wp_R_registerAt_j1
  unfold f_R_registerAt_j1_v at hQ
  exact hQ
def f_R_registerAt_v (M0 : Mem) (a1 : Int32) : Int32 := (if a1 = 0 then (f_R_registerAt_j1_v (M0 8 7)) else (if a1 = (1 : Int32) then (f_R_registerAt_j1_v (M0 8 6)) else (if (8 : Int32) ≤ a1 then (if a1 = (8 : Int32) then (f_R_registerAt_j1_v (M0 0 18)) else (f_R_registerAt_j1_v (M0 0 19))) else (f_R_registerAt_j1_v (M0 8 ((a1 - (2 : Int32))).toNatClampNeg)))))
def ok_R_registerAt (M0 : Mem) (a1 : Int32) : Prop := (((¬ a1 = 0) → (((¬ a1 = (1 : Int32)) → ((((8 : Int32) ≤ a1) → True) ∧ ((¬ (8 : Int32) ≤ a1) → vp_in (a1 - (2 : Int32)) 8))) ∧ ((a1 = (1 : Int32)) → True))) ∧ ((a1 = 0) → True))
set_option maxRecDepth 100000 in
set_option maxHeartbeats 4000000 in
theorem sp_R_registerAt (M0 : Mem) (a1 : Int32) (Q : Int32 → Prop) (hok : ok_R_registerAt M0 a1) (hQ : Q (f_R_registerAt_v M0 a1)) : wp_R_registerAt M0 a1 Q := by
  unfold wp_R_registerAt
  unfold ok_R_registerAt at hok
  unfold f_R_registerAt_v at hQ
  refine ⟨fun hc => ?_, fun hc => ?_⟩
  · simp only [if_neg hc] at hQ
    have hok := hok.1 hc
    refine ⟨fun hc => ?_, fun hc => ?_⟩
    · simp only [if_neg hc] at hQ
      have hok := hok.1 hc
      refine ⟨fun hc => ?_, fun hc => ?_⟩
      · simp only [if_pos hc] at hQ
        refine ⟨fun hc => ?_, fun hc => ?_⟩
        · simp only [if_neg hc] at hQ
          exact sp_R_registerAt_j1 _ _ hQ
        · simp only [if_pos hc] at hQ
          exact sp_R_registerAt_j1 _ _ hQ
      · simp only [if_neg hc] at hQ
        have hok := hok.2 hc
        refine ⟨hok, ?_⟩
        exact sp_R_registerAt_j1 _ _ hQ
    · simp only [if_pos hc] at hQ
      exact sp_R_registerAt_j1 _ _ hQ
  · simp only [if_pos hc] at hQ
    exact sp_R_registerAt_j1 _ _ hQ
def f_R_set_j2_v (x22 : Int32) (M29 : Mem) : Int32 := x22
def f_R_set_j2_m (x22 : Int32) (M29 : Mem) : Mem := M29
set_option maxRecDepth 100000 in
set_option maxHeartbeats 4000000 in
theorem sp_R_set_j2 (x22 : Int32) (M29 : Mem) (Q : Int32 → Mem → Prop) (hQ : Q (f_R_set_j2_v x22 M29) (f_R_set_j2_m x22 M29)) : wp_R_set_j2 x22 M29 Q := by
  unfold wp_R_set_j2
  unfold f_R_set_j2_v f_R_set_j2_m at hQ
  exact hQ
def f_R_set_j1_v (a1 : Int32) (a2 : Int32) (M1 : Mem) (x19 : Int32) : Int32 := let x20 : Int32 := f_R_fails_v M1 x19 (1 : Int32); let M21 : Mem := f_R_fails_m M1 x19 (1 : Int32); (if x20 = 0 then let x22 : Int32 := f_R_registerAt_v M21 a1; (if a1 = 0 then let M34 : Mem := mst M21 8 7 (a2 &&& (255 : Int32)); (f_R_set_j2_v x22 M34) else (if a1 = (1 : Int32) then let M33 : Mem := mst M21 8 6 (a2 &&& (240 : Int32)); (f_R_set_j2_v x22 M33) else (if (8 : Int32) ≤ a1 then (if a1 = (8 : Int32) then let M31 : Mem := mst M21 0 18 (a2 &&& (65535 : Int32)); (f_R_set_j2_v x22 M31) else let M30 : Mem := mst M21 0 19 (a2 &&& (65535 : Int32)); (f_R_set_j2_v x22 M30)) else let M32 : Mem := mst M21 8 ((a1 - (2 : Int32))).toNatClampNeg (a2 &&& (255 : Int32)); (f_R_set_j2_v x22 M32)))) else (0 : Int32))
def f_R_set_j1_m (a1 : Int32) (a2 : Int32) (M1 : Mem) (x19 : Int32) : Mem := let x20 : Int32 := f_R_fails_v M1 x19 (1 : Int32); let M21 : Mem := f_R_fails_m M1 x19 (1 : Int32); (if x20 = 0 then let x22 : Int32 := f_R_registerAt_v M21 a1; (if a1 = 0 then let M34 : Mem := mst M21 8 7 (a2 &&& (255 : Int32)); (f_R_set_j2_m x22 M34) else (if a1 = (1 : Int32) then let M33 : Mem := mst M21 8 6 (a2 &&& (240 : Int32)); (f_R_set_j2_m x22 M33) else (if (8 : Int32) ≤ a1 then (if a1 = (8 : Int32) then let M31 : Mem := mst M21 0 18 (a2 &&& (65535 : Int32)); (f_R_set_j2_m x22 M31) else let M30 : Mem := mst M21 0 19 (a2 &&& (65535 : Int32)); (f_R_set_j2_m x22 M30)) else let M32 : Mem := mst M21 8 ((a1 - (2 : Int32))).toNatClampNeg (a2 &&& (255 : Int32)); (f_R_set_j2_m x22 M32)))) else M21)
def ok_R_set_j1 (a1 : Int32) (a2 : Int32) (M1 : Mem) (x19 : Int32) : Prop := ok_R_fails M1 x19 (1 : Int32) ∧ (∀ x20 : Int32, x20 = f_R_fails_v M1 x19 (1 : Int32) → ∀ M21 : Mem, M21 = f_R_fails_m M1 x19 (1 : Int32) → (((x20 = 0) → ok_R_registerAt M21 a1 ∧ (∀ x22 : Int32, x22 = f_R_registerAt_v M21 a1 → (((¬ a1 = 0) → (((¬ a1 = (1 : Int32)) → ((((8 : Int32) ≤ a1) → True) ∧ ((¬ (8 : Int32) ≤ a1) → vp_in (a1 - (2 : Int32)) 8))) ∧ ((a1 = (1 : Int32)) → True))) ∧ ((a1 = 0) → True)))) ∧ ((¬ x20 = 0) → True)))
set_option maxRecDepth 100000 in
set_option maxHeartbeats 4000000 in
theorem sp_R_set_j1 (a1 : Int32) (a2 : Int32) (M1 : Mem) (x19 : Int32) (Q : Int32 → Mem → Prop) (hok : ok_R_set_j1 a1 a2 M1 x19) (hQ : Q (f_R_set_j1_v a1 a2 M1 x19) (f_R_set_j1_m a1 a2 M1 x19)) : wp_R_set_j1 a1 a2 M1 x19 Q := by
  unfold wp_R_set_j1
  unfold ok_R_set_j1 at hok
  unfold f_R_set_j1_v f_R_set_j1_m at hQ
  refine sp_R_fails _ _ _ _ hok.1 ?_
  have hok := hok.2 _ rfl _ rfl
  refine ⟨fun hc => ?_, fun hc => ?_⟩
  · simp only [if_pos hc] at hQ
    have hok := hok.1 hc
    refine sp_R_registerAt _ _ _ hok.1 ?_
    have hok := hok.2 _ rfl
    refine ⟨fun hc => ?_, fun hc => ?_⟩
    · simp only [if_neg hc] at hQ
      have hok := hok.1 hc
      refine ⟨fun hc => ?_, fun hc => ?_⟩
      · simp only [if_neg hc] at hQ
        have hok := hok.1 hc
        refine ⟨fun hc => ?_, fun hc => ?_⟩
        · simp only [if_pos hc] at hQ
          refine ⟨fun hc => ?_, fun hc => ?_⟩
          · simp only [if_neg hc] at hQ
            intro M30 h_; subst h_
            exact sp_R_set_j2 _ _ _ hQ
          · simp only [if_pos hc] at hQ
            intro M31 h_; subst h_
            exact sp_R_set_j2 _ _ _ hQ
        · simp only [if_neg hc] at hQ
          have hok := hok.2 hc
          refine ⟨hok, ?_⟩
          intro M32 h_; subst h_
          exact sp_R_set_j2 _ _ _ hQ
      · simp only [if_pos hc] at hQ
        intro M33 h_; subst h_
        exact sp_R_set_j2 _ _ _ hQ
    · simp only [if_pos hc] at hQ
      intro M34 h_; subst h_
      exact sp_R_set_j2 _ _ _ hQ
  · simp only [if_neg hc] at hQ
    exact hQ
def f_R_set_v (M0 : Mem) (a1 : Int32) (a2 : Int32) : Int32 := let M1 : Mem := mst M0 0 0 (0 : Int32); let x2 : Int32 := f_R_in_v M1 a1 (0 : Int32) (9 : Int32); (if x2 = 0 then (f_R_set_j1_v a1 a2 M1 (1 : Int32)) else (f_R_set_j1_v a1 a2 M1 (0 : Int32)))
def f_R_set_m (M0 : Mem) (a1 : Int32) (a2 : Int32) : Mem := let M1 : Mem := mst M0 0 0 (0 : Int32); let x2 : Int32 := f_R_in_v M1 a1 (0 : Int32) (9 : Int32); (if x2 = 0 then (f_R_set_j1_m a1 a2 M1 (1 : Int32)) else (f_R_set_j1_m a1 a2 M1 (0 : Int32)))
def ok_R_set (M0 : Mem) (a1 : Int32) (a2 : Int32) : Prop := ∀ M1 : Mem, M1 = mst M0 0 0 (0 : Int32) → ok_R_in M1 a1 (0 : Int32) (9 : Int32) ∧ (∀ x2 : Int32, x2 = f_R_in_v M1 a1 (0 : Int32) (9 : Int32) → (((¬ x2 = 0) → ok_R_set_j1 a1 a2 M1 (0 : Int32)) ∧ ((x2 = 0) → ok_R_set_j1 a1 a2 M1 (1 : Int32))))
set_option maxRecDepth 100000 in
set_option maxHeartbeats 4000000 in
theorem sp_R_set (M0 : Mem) (a1 : Int32) (a2 : Int32) (Q : Int32 → Mem → Prop) (hok : ok_R_set M0 a1 a2) (hQ : Q (f_R_set_v M0 a1 a2) (f_R_set_m M0 a1 a2)) : wp_R_set M0 a1 a2 Q := by
  unfold wp_R_set
  unfold ok_R_set at hok
  unfold f_R_set_v f_R_set_m at hQ
  intro M1 h_; subst h_
  have hok := hok _ rfl
  refine sp_R_in _ _ _ _ _ hok.1 ?_
  have hok := hok.2 _ rfl
  refine ⟨fun hc => ?_, fun hc => ?_⟩
  · simp only [if_neg hc] at hQ
    have hok := hok.1 hc
    exact sp_R_set_j1 _ _ _ _ _ hok hQ
  · simp only [if_pos hc] at hQ
    have hok := hok.2 hc
    exact sp_R_set_j1 _ _ _ _ _ hok hQ
def f_R_register_j2_v (M12 : Mem) (x15 : Int32) : Int32 := x15
def f_R_register_j2_m (M12 : Mem) (x15 : Int32) : Mem := M12
set_option maxRecDepth 100000 in
set_option maxHeartbeats 4000000 in
theorem sp_R_register_j2 (M12 : Mem) (x15 : Int32) (Q : Int32 → Mem → Prop) (hQ : Q (f_R_register_j2_v M12 x15) (f_R_register_j2_m M12 x15)) : wp_R_register_j2 M12 x15 Q := by
  unfold wp_R_register_j2
  unfold f_R_register_j2_v f_R_register_j2_m at hQ
  exact hQ
def f_R_register_j1_v (a1 : Int32) (M1 : Mem) (x10 : Int32) : Int32 := let x11 : Int32 := f_R_fails_v M1 x10 (1 : Int32); let M12 : Mem := f_R_fails_m M1 x10 (1 : Int32); (if x11 = 0 then let x16 : Int32 := f_R_registerAt_v M12 a1; (f_R_register_j2_v M12 x16) else (f_R_register_j2_v M12 (0 : Int32)))
def f_R_register_j1_m (a1 : Int32) (M1 : Mem) (x10 : Int32) : Mem := let x11 : Int32 := f_R_fails_v M1 x10 (1 : Int32); let M12 : Mem := f_R_fails_m M1 x10 (1 : Int32); (if x11 = 0 then let x16 : Int32 := f_R_registerAt_v M12 a1; (f_R_register_j2_m M12 x16) else (f_R_register_j2_m M12 (0 : Int32)))
def ok_R_register_j1 (a1 : Int32) (M1 : Mem) (x10 : Int32) : Prop := ok_R_fails M1 x10 (1 : Int32) ∧ (∀ x11 : Int32, x11 = f_R_fails_v M1 x10 (1 : Int32) → ∀ M12 : Mem, M12 = f_R_fails_m M1 x10 (1 : Int32) → (((x11 = 0) → ok_R_registerAt M12 a1) ∧ ((¬ x11 = 0) → True)))
set_option maxRecDepth 100000 in
set_option maxHeartbeats 4000000 in
theorem sp_R_register_j1 (a1 : Int32) (M1 : Mem) (x10 : Int32) (Q : Int32 → Mem → Prop) (hok : ok_R_register_j1 a1 M1 x10) (hQ : Q (f_R_register_j1_v a1 M1 x10) (f_R_register_j1_m a1 M1 x10)) : wp_R_register_j1 a1 M1 x10 Q := by
  unfold wp_R_register_j1
  unfold ok_R_register_j1 at hok
  unfold f_R_register_j1_v f_R_register_j1_m at hQ
  refine sp_R_fails _ _ _ _ hok.1 ?_
  have hok := hok.2 _ rfl _ rfl
  refine ⟨fun hc => ?_, fun hc => ?_⟩
  · simp only [if_pos hc] at hQ
    have hok := hok.1 hc
    refine sp_R_registerAt _ _ _ hok ?_
    exact sp_R_register_j2 _ _ _ hQ
  · simp only [if_neg hc] at hQ
    exact sp_R_register_j2 _ _ _ hQ
def f_R_register_v (M0 : Mem) (a1 : Int32) : Int32 := let M1 : Mem := mst M0 0 0 (0 : Int32); let x2 : Int32 := f_R_in_v M1 a1 (0 : Int32) (9 : Int32); (if x2 = 0 then (f_R_register_j1_v a1 M1 (1 : Int32)) else (f_R_register_j1_v a1 M1 (0 : Int32)))
def f_R_register_m (M0 : Mem) (a1 : Int32) : Mem := let M1 : Mem := mst M0 0 0 (0 : Int32); let x2 : Int32 := f_R_in_v M1 a1 (0 : Int32) (9 : Int32); (if x2 = 0 then (f_R_register_j1_m a1 M1 (1 : Int32)) else (f_R_register_j1_m a1 M1 (0 : Int32)))
def ok_R_register (M0 : Mem) (a1 : Int32) : Prop := ∀ M1 : Mem, M1 = mst M0 0 0 (0 : Int32) → ok_R_in M1 a1 (0 : Int32) (9 : Int32) ∧ (∀ x2 : Int32, x2 = f_R_in_v M1 a1 (0 : Int32) (9 : Int32) → (((¬ x2 = 0) → ok_R_register_j1 a1 M1 (0 : Int32)) ∧ ((x2 = 0) → ok_R_register_j1 a1 M1 (1 : Int32))))
set_option maxRecDepth 100000 in
set_option maxHeartbeats 4000000 in
theorem sp_R_register (M0 : Mem) (a1 : Int32) (Q : Int32 → Mem → Prop) (hok : ok_R_register M0 a1) (hQ : Q (f_R_register_v M0 a1) (f_R_register_m M0 a1)) : wp_R_register M0 a1 Q := by
  unfold wp_R_register
  unfold ok_R_register at hok
  unfold f_R_register_v f_R_register_m at hQ
  intro M1 h_; subst h_
  have hok := hok _ rfl
  refine sp_R_in _ _ _ _ _ hok.1 ?_
  have hok := hok.2 _ rfl
  refine ⟨fun hc => ?_, fun hc => ?_⟩
  · simp only [if_neg hc] at hQ
    have hok := hok.1 hc
    exact sp_R_register_j1 _ _ _ _ hok hQ
  · simp only [if_pos hc] at hQ
    have hok := hok.2 hc
    exact sp_R_register_j1 _ _ _ _ hok hQ
def f_R_read_j2_v (M12 : Mem) (x15 : Int32) : Int32 := x15
def f_R_read_j2_m (M12 : Mem) (x15 : Int32) : Mem := M12
set_option maxRecDepth 100000 in
set_option maxHeartbeats 4000000 in
theorem sp_R_read_j2 (M12 : Mem) (x15 : Int32) (Q : Int32 → Mem → Prop) (hQ : Q (f_R_read_j2_v M12 x15) (f_R_read_j2_m M12 x15)) : wp_R_read_j2 M12 x15 Q := by
  unfold wp_R_read_j2
  unfold f_R_read_j2_v f_R_read_j2_m at hQ
  exact hQ
def f_R_read_j1_v (a1 : Int32) (M1 : Mem) (x10 : Int32) : Int32 := let x11 : Int32 := f_R_fails_v M1 x10 (1 : Int32); let M12 : Mem := f_R_fails_m M1 x10 (1 : Int32); (if x11 = 0 then let x16 : Int32 := f_R_get_v M12 a1; (f_R_read_j2_v M12 x16) else (f_R_read_j2_v M12 (0 : Int32)))
def f_R_read_j1_m (a1 : Int32) (M1 : Mem) (x10 : Int32) : Mem := let x11 : Int32 := f_R_fails_v M1 x10 (1 : Int32); let M12 : Mem := f_R_fails_m M1 x10 (1 : Int32); (if x11 = 0 then let x16 : Int32 := f_R_get_v M12 a1; (f_R_read_j2_m M12 x16) else (f_R_read_j2_m M12 (0 : Int32)))
def ok_R_read_j1 (a1 : Int32) (M1 : Mem) (x10 : Int32) : Prop := ok_R_fails M1 x10 (1 : Int32) ∧ (∀ x11 : Int32, x11 = f_R_fails_v M1 x10 (1 : Int32) → ∀ M12 : Mem, M12 = f_R_fails_m M1 x10 (1 : Int32) → (((x11 = 0) → ok_R_get M12 a1) ∧ ((¬ x11 = 0) → True)))
set_option maxRecDepth 100000 in
set_option maxHeartbeats 4000000 in
theorem sp_R_read_j1 (a1 : Int32) (M1 : Mem) (x10 : Int32) (Q : Int32 → Mem → Prop) (hok : ok_R_read_j1 a1 M1 x10) (hQ : Q (f_R_read_j1_v a1 M1 x10) (f_R_read_j1_m a1 M1 x10)) : wp_R_read_j1 a1 M1 x10 Q := by
  unfold wp_R_read_j1
  unfold ok_R_read_j1 at hok
  unfold f_R_read_j1_v f_R_read_j1_m at hQ
  refine sp_R_fails _ _ _ _ hok.1 ?_
  have hok := hok.2 _ rfl _ rfl
  refine ⟨fun hc => ?_, fun hc => ?_⟩
  · simp only [if_pos hc] at hQ
    have hok := hok.1 hc
    refine sp_R_get _ _ _ hok ?_
    exact sp_R_read_j2 _ _ _ hQ
  · simp only [if_neg hc] at hQ
    exact sp_R_read_j2 _ _ _ hQ
def f_R_read_v (M0 : Mem) (a1 : Int32) : Int32 := let M1 : Mem := mst M0 0 0 (0 : Int32); let x2 : Int32 := f_R_in_v M1 a1 (0 : Int32) (65535 : Int32); (if x2 = 0 then (f_R_read_j1_v a1 M1 (1 : Int32)) else (f_R_read_j1_v a1 M1 (0 : Int32)))
def f_R_read_m (M0 : Mem) (a1 : Int32) : Mem := let M1 : Mem := mst M0 0 0 (0 : Int32); let x2 : Int32 := f_R_in_v M1 a1 (0 : Int32) (65535 : Int32); (if x2 = 0 then (f_R_read_j1_m a1 M1 (1 : Int32)) else (f_R_read_j1_m a1 M1 (0 : Int32)))
def ok_R_read (M0 : Mem) (a1 : Int32) : Prop := ∀ M1 : Mem, M1 = mst M0 0 0 (0 : Int32) → ok_R_in M1 a1 (0 : Int32) (65535 : Int32) ∧ (∀ x2 : Int32, x2 = f_R_in_v M1 a1 (0 : Int32) (65535 : Int32) → (((¬ x2 = 0) → ok_R_read_j1 a1 M1 (0 : Int32)) ∧ ((x2 = 0) → ok_R_read_j1 a1 M1 (1 : Int32))))
set_option maxRecDepth 100000 in
set_option maxHeartbeats 4000000 in
theorem sp_R_read (M0 : Mem) (a1 : Int32) (Q : Int32 → Mem → Prop) (hok : ok_R_read M0 a1) (hQ : Q (f_R_read_v M0 a1) (f_R_read_m M0 a1)) : wp_R_read M0 a1 Q := by
  unfold wp_R_read
  unfold ok_R_read at hok
  unfold f_R_read_v f_R_read_m at hQ
  intro M1 h_; subst h_
  have hok := hok _ rfl
  refine sp_R_in _ _ _ _ _ hok.1 ?_
  have hok := hok.2 _ rfl
  refine ⟨fun hc => ?_, fun hc => ?_⟩
  · simp only [if_neg hc] at hQ
    have hok := hok.1 hc
    exact sp_R_read_j1 _ _ _ _ hok hQ
  · simp only [if_pos hc] at hQ
    have hok := hok.2 hc
    exact sp_R_read_j1 _ _ _ _ hok hQ
def f_R_write_j2_v (M57 : Mem) : Int32 := (0 : Int32)
def f_R_write_j2_m (M57 : Mem) : Mem := M57
set_option maxRecDepth 100000 in
set_option maxHeartbeats 4000000 in
theorem sp_R_write_j2 (M57 : Mem) (Q : Int32 → Mem → Prop) (hQ : Q (f_R_write_j2_v M57) (f_R_write_j2_m M57)) : wp_R_write_j2 M57 Q := by
  unfold wp_R_write_j2
  unfold f_R_write_j2_v f_R_write_j2_m at hQ
  exact hQ
def f_R_write_l1_v (a1 : Int32) (a2 : Int32) (a3 : Int64) (n : Nat) : Int32 → Mem → Int32 := Nat.rec (motive := fun _ => Int32 → Mem → Int32) (fun _ _ => 0) (fun _ K1_v x69 M70 => (if a2 ≤ x69 then a2 else let M71 : Mem := f_R_put_m M70 (a1 + x69) (((a3.toUInt64 >>> (((8 : Int32) * x69).toInt64.toUInt64 &&& Int64.toUInt64 63)).toInt64 &&& (255 : Int64)).toInt32); let x72 : Int32 := x69 + (1 : Int32); (K1_v x72 M71))) n
theorem f_R_write_l1_v_s (a1 : Int32) (a2 : Int32) (a3 : Int64) (n : Nat) (x69 : Int32) (M70 : Mem) : f_R_write_l1_v a1 a2 a3 (n + 1) x69 M70 = (let K1_v : Int32 → Mem → Int32 := f_R_write_l1_v a1 a2 a3 n; (if a2 ≤ x69 then a2 else let M71 : Mem := f_R_put_m M70 (a1 + x69) (((a3.toUInt64 >>> (((8 : Int32) * x69).toInt64.toUInt64 &&& Int64.toUInt64 63)).toInt64 &&& (255 : Int64)).toInt32); let x72 : Int32 := x69 + (1 : Int32); (K1_v x72 M71))) := rfl
def f_R_write_l1_m (a1 : Int32) (a2 : Int32) (a3 : Int64) (n : Nat) : Int32 → Mem → Mem := Nat.rec (motive := fun _ => Int32 → Mem → Mem) (fun _ _ => (fun _ _ => 0)) (fun _ K1_m x69 M70 => (if a2 ≤ x69 then M70 else let M71 : Mem := f_R_put_m M70 (a1 + x69) (((a3.toUInt64 >>> (((8 : Int32) * x69).toInt64.toUInt64 &&& Int64.toUInt64 63)).toInt64 &&& (255 : Int64)).toInt32); let x72 : Int32 := x69 + (1 : Int32); (K1_m x72 M71))) n
theorem f_R_write_l1_m_s (a1 : Int32) (a2 : Int32) (a3 : Int64) (n : Nat) (x69 : Int32) (M70 : Mem) : f_R_write_l1_m a1 a2 a3 (n + 1) x69 M70 = (let K1_m : Int32 → Mem → Mem := f_R_write_l1_m a1 a2 a3 n; (if a2 ≤ x69 then M70 else let M71 : Mem := f_R_put_m M70 (a1 + x69) (((a3.toUInt64 >>> (((8 : Int32) * x69).toInt64.toUInt64 &&& Int64.toUInt64 63)).toInt64 &&& (255 : Int64)).toInt32); let x72 : Int32 := x69 + (1 : Int32); (K1_m x72 M71))) := rfl
def ok_R_write_l1 (a1 : Int32) (a2 : Int32) (a3 : Int64) (n : Nat) : Int32 → Mem → Prop := Nat.rec (motive := fun _ => Int32 → Mem → Prop) (fun _ _ => False) (fun _ K1_ok x69 M70 => (((a2 ≤ x69) → True) ∧ ((¬ a2 ≤ x69) → ok_R_put M70 (a1 + x69) (((a3.toUInt64 >>> (((8 : Int32) * x69).toInt64.toUInt64 &&& Int64.toUInt64 63)).toInt64 &&& (255 : Int64)).toInt32) ∧ (∀ M71 : Mem, M71 = f_R_put_m M70 (a1 + x69) (((a3.toUInt64 >>> (((8 : Int32) * x69).toInt64.toUInt64 &&& Int64.toUInt64 63)).toInt64 &&& (255 : Int64)).toInt32) → ∀ x72 : Int32, x72 = x69 + (1 : Int32) → K1_ok x72 M71)))) n
set_option maxRecDepth 100000 in
set_option maxHeartbeats 4000000 in
theorem sp_R_write_l1 (a1 : Int32) (a2 : Int32) (a3 : Int64) {Q : Int32 → Mem → Prop} : ∀ (n : Nat) (x69 : Int32) (M70 : Mem), ok_R_write_l1 a1 a2 a3 n x69 M70 → Q (f_R_write_l1_v a1 a2 a3 n x69 M70) (f_R_write_l1_m a1 a2 a3 n x69 M70) → wp_R_write_l1 a1 a2 a3 Q n x69 M70 := by
  intro n
  induction n with
  | zero => intro x69 M70 hok; exact False.elim hok
  | succ n ih =>
    intro x69 M70 hok hQ
    have hK1 := ih
    rw [f_R_write_l1_v_s, f_R_write_l1_m_s] at hQ
    refine ⟨fun hc => ?_, fun hc => ?_⟩
    · simp only [if_pos hc] at hQ
      exact hQ
    · simp only [if_neg hc] at hQ
      have hok := hok.2 hc
      refine sp_R_put _ _ _ _ hok.1 ?_
      have hok := hok.2 _ rfl
      intro x72 h_; subst h_
      have hok := hok _ rfl
      exact hK1 _ _  hok hQ
def f_R_write_j3_v (a1 : Int32) (a2 : Int32) (a3 : Int64) (M40 : Mem) (x66 : Int32) : Int32 := let x67 : Int32 := f_R_fails_v M40 x66 (1 : Int32); let M68 : Mem := f_R_fails_m M40 x66 (1 : Int32); (if x67 = 0 then (f_R_write_l1_v a1 a2 a3 9 (0 : Int32) M68) else (f_R_write_j2_v M68))
def f_R_write_j3_m (a1 : Int32) (a2 : Int32) (a3 : Int64) (M40 : Mem) (x66 : Int32) : Mem := let x67 : Int32 := f_R_fails_v M40 x66 (1 : Int32); let M68 : Mem := f_R_fails_m M40 x66 (1 : Int32); (if x67 = 0 then (f_R_write_l1_m a1 a2 a3 9 (0 : Int32) M68) else (f_R_write_j2_m M68))
def ok_R_write_j3 (a1 : Int32) (a2 : Int32) (a3 : Int64) (M40 : Mem) (x66 : Int32) : Prop := ok_R_fails M40 x66 (1 : Int32) ∧ (∀ x67 : Int32, x67 = f_R_fails_v M40 x66 (1 : Int32) → ∀ M68 : Mem, M68 = f_R_fails_m M40 x66 (1 : Int32) → (((x67 = 0) → ok_R_write_l1 a1 a2 a3 9 (0 : Int32) M68) ∧ ((¬ x67 = 0) → True)))
set_option maxRecDepth 100000 in
set_option maxHeartbeats 4000000 in
theorem sp_R_write_j3 (a1 : Int32) (a2 : Int32) (a3 : Int64) (M40 : Mem) (x66 : Int32) (Q : Int32 → Mem → Prop) (hok : ok_R_write_j3 a1 a2 a3 M40 x66) (hQ : Q (f_R_write_j3_v a1 a2 a3 M40 x66) (f_R_write_j3_m a1 a2 a3 M40 x66)) : wp_R_write_j3 a1 a2 a3 M40 x66 Q := by
  unfold wp_R_write_j3
  unfold ok_R_write_j3 at hok
  unfold f_R_write_j3_v f_R_write_j3_m at hQ
  refine sp_R_fails _ _ _ _ hok.1 ?_
  have hok := hok.2 _ rfl _ rfl
  refine ⟨fun hc => ?_, fun hc => ?_⟩
  · simp only [if_pos hc] at hQ
    have hok := hok.1 hc
    exact ⟨_, sp_R_write_l1 _ _ _ _ _ _  hok hQ⟩
  · simp only [if_neg hc] at hQ
    exact sp_R_write_j2 _ _ hQ
def f_R_write_j1_v (a1 : Int32) (a2 : Int32) (a3 : Int64) (M1 : Mem) (x38 : Int32) : Int32 := let x39 : Int32 := f_R_fails_v M1 x38 (1 : Int32); let M40 : Mem := f_R_fails_m M1 x38 (1 : Int32); (if x39 = 0 then let x58 : Int32 := f_R_in_v M40 a1 (0 : Int32) ((65536 : Int32) - a2); (if x58 = 0 then (f_R_write_j3_v a1 a2 a3 M40 (1 : Int32)) else (f_R_write_j3_v a1 a2 a3 M40 (0 : Int32))) else (f_R_write_j2_v M40))
def f_R_write_j1_m (a1 : Int32) (a2 : Int32) (a3 : Int64) (M1 : Mem) (x38 : Int32) : Mem := let x39 : Int32 := f_R_fails_v M1 x38 (1 : Int32); let M40 : Mem := f_R_fails_m M1 x38 (1 : Int32); (if x39 = 0 then let x58 : Int32 := f_R_in_v M40 a1 (0 : Int32) ((65536 : Int32) - a2); (if x58 = 0 then (f_R_write_j3_m a1 a2 a3 M40 (1 : Int32)) else (f_R_write_j3_m a1 a2 a3 M40 (0 : Int32))) else (f_R_write_j2_m M40))
def ok_R_write_j1 (a1 : Int32) (a2 : Int32) (a3 : Int64) (M1 : Mem) (x38 : Int32) : Prop := ok_R_fails M1 x38 (1 : Int32) ∧ (∀ x39 : Int32, x39 = f_R_fails_v M1 x38 (1 : Int32) → ∀ M40 : Mem, M40 = f_R_fails_m M1 x38 (1 : Int32) → (((¬ x39 = 0) → True) ∧ ((x39 = 0) → ok_R_in M40 a1 (0 : Int32) ((65536 : Int32) - a2) ∧ (∀ x58 : Int32, x58 = f_R_in_v M40 a1 (0 : Int32) ((65536 : Int32) - a2) → (((¬ x58 = 0) → ok_R_write_j3 a1 a2 a3 M40 (0 : Int32)) ∧ ((x58 = 0) → ok_R_write_j3 a1 a2 a3 M40 (1 : Int32)))))))
set_option maxRecDepth 100000 in
set_option maxHeartbeats 4000000 in
theorem sp_R_write_j1 (a1 : Int32) (a2 : Int32) (a3 : Int64) (M1 : Mem) (x38 : Int32) (Q : Int32 → Mem → Prop) (hok : ok_R_write_j1 a1 a2 a3 M1 x38) (hQ : Q (f_R_write_j1_v a1 a2 a3 M1 x38) (f_R_write_j1_m a1 a2 a3 M1 x38)) : wp_R_write_j1 a1 a2 a3 M1 x38 Q := by
  unfold wp_R_write_j1
  unfold ok_R_write_j1 at hok
  unfold f_R_write_j1_v f_R_write_j1_m at hQ
  refine sp_R_fails _ _ _ _ hok.1 ?_
  have hok := hok.2 _ rfl _ rfl
  refine ⟨fun hc => ?_, fun hc => ?_⟩
  · simp only [if_neg hc] at hQ
    exact sp_R_write_j2 _ _ hQ
  · simp only [if_pos hc] at hQ
    have hok := hok.2 hc
    refine sp_R_in _ _ _ _ _ hok.1 ?_
    have hok := hok.2 _ rfl
    refine ⟨fun hc => ?_, fun hc => ?_⟩
    · simp only [if_neg hc] at hQ
      have hok := hok.1 hc
      exact sp_R_write_j3 _ _ _ _ _ _ hok hQ
    · simp only [if_pos hc] at hQ
      have hok := hok.2 hc
      exact sp_R_write_j3 _ _ _ _ _ _ hok hQ
def f_R_write_v (M0 : Mem) (a1 : Int32) (a2 : Int32) (a3 : Int64) : Int32 := let M1 : Mem := mst M0 0 0 (0 : Int32); let x2 : Int32 := f_R_in_v M1 a2 (1 : Int32) (8 : Int32); (if x2 = 0 then (f_R_write_j1_v a1 a2 a3 M1 (1 : Int32)) else (f_R_write_j1_v a1 a2 a3 M1 (0 : Int32)))
def f_R_write_m (M0 : Mem) (a1 : Int32) (a2 : Int32) (a3 : Int64) : Mem := let M1 : Mem := mst M0 0 0 (0 : Int32); let x2 : Int32 := f_R_in_v M1 a2 (1 : Int32) (8 : Int32); (if x2 = 0 then (f_R_write_j1_m a1 a2 a3 M1 (1 : Int32)) else (f_R_write_j1_m a1 a2 a3 M1 (0 : Int32)))
def ok_R_write (M0 : Mem) (a1 : Int32) (a2 : Int32) (a3 : Int64) : Prop := ∀ M1 : Mem, M1 = mst M0 0 0 (0 : Int32) → ok_R_in M1 a2 (1 : Int32) (8 : Int32) ∧ (∀ x2 : Int32, x2 = f_R_in_v M1 a2 (1 : Int32) (8 : Int32) → (((¬ x2 = 0) → ok_R_write_j1 a1 a2 a3 M1 (0 : Int32)) ∧ ((x2 = 0) → ok_R_write_j1 a1 a2 a3 M1 (1 : Int32))))
set_option maxRecDepth 100000 in
set_option maxHeartbeats 4000000 in
theorem sp_R_write (M0 : Mem) (a1 : Int32) (a2 : Int32) (a3 : Int64) (Q : Int32 → Mem → Prop) (hok : ok_R_write M0 a1 a2 a3) (hQ : Q (f_R_write_v M0 a1 a2 a3) (f_R_write_m M0 a1 a2 a3)) : wp_R_write M0 a1 a2 a3 Q := by
  unfold wp_R_write
  unfold ok_R_write at hok
  unfold f_R_write_v f_R_write_m at hQ
  intro M1 h_; subst h_
  have hok := hok _ rfl
  refine sp_R_in _ _ _ _ _ hok.1 ?_
  have hok := hok.2 _ rfl
  refine ⟨fun hc => ?_, fun hc => ?_⟩
  · simp only [if_neg hc] at hQ
    have hok := hok.1 hc
    exact sp_R_write_j1 _ _ _ _ _ _ hok hQ
  · simp only [if_pos hc] at hQ
    have hok := hok.2 hc
    exact sp_R_write_j1 _ _ _ _ _ _ hok hQ
def f_R_keys_j2_v (a1 : Int32) (x16 : Int32) (M20 : Mem) : Int32 := x16
def f_R_keys_j2_m (a1 : Int32) (x16 : Int32) (M20 : Mem) : Mem := let M21 : Mem := mst M20 0 25 a1; M21
set_option maxRecDepth 100000 in
set_option maxHeartbeats 4000000 in
theorem sp_R_keys_j2 (a1 : Int32) (x16 : Int32) (M20 : Mem) (Q : Int32 → Mem → Prop) (hQ : Q (f_R_keys_j2_v a1 x16 M20) (f_R_keys_j2_m a1 x16 M20)) : wp_R_keys_j2 a1 x16 M20 Q := by
  unfold wp_R_keys_j2
  unfold f_R_keys_j2_v f_R_keys_j2_m at hQ
  intro M21 h_; subst h_
  exact hQ
def f_R_keys_j1_v (a1 : Int32) (M1 : Mem) (x13 : Int32) : Int32 := let x14 : Int32 := f_R_fails_v M1 x13 (1 : Int32); let M15 : Mem := f_R_fails_m M1 x13 (1 : Int32); (if x14 = 0 then let x16 : Int32 := (M15 0 25); (if (a1 &&& (x16 ^^^ (-1 : Int32))) = 0 then (f_R_keys_j2_v a1 x16 M15) else let M22 : Mem := mst M15 0 31 ((M15 0 31) ||| (16 : Int32)); (f_R_keys_j2_v a1 x16 M22)) else (0 : Int32))
def f_R_keys_j1_m (a1 : Int32) (M1 : Mem) (x13 : Int32) : Mem := let x14 : Int32 := f_R_fails_v M1 x13 (1 : Int32); let M15 : Mem := f_R_fails_m M1 x13 (1 : Int32); (if x14 = 0 then let x16 : Int32 := (M15 0 25); (if (a1 &&& (x16 ^^^ (-1 : Int32))) = 0 then (f_R_keys_j2_m a1 x16 M15) else let M22 : Mem := mst M15 0 31 ((M15 0 31) ||| (16 : Int32)); (f_R_keys_j2_m a1 x16 M22)) else M15)
def ok_R_keys_j1 (a1 : Int32) (M1 : Mem) (x13 : Int32) : Prop := ok_R_fails M1 x13 (1 : Int32)
set_option maxRecDepth 100000 in
set_option maxHeartbeats 4000000 in
theorem sp_R_keys_j1 (a1 : Int32) (M1 : Mem) (x13 : Int32) (Q : Int32 → Mem → Prop) (hok : ok_R_keys_j1 a1 M1 x13) (hQ : Q (f_R_keys_j1_v a1 M1 x13) (f_R_keys_j1_m a1 M1 x13)) : wp_R_keys_j1 a1 M1 x13 Q := by
  unfold wp_R_keys_j1
  unfold ok_R_keys_j1 at hok
  unfold f_R_keys_j1_v f_R_keys_j1_m at hQ
  refine sp_R_fails _ _ _ _ hok ?_
  refine ⟨fun hc => ?_, fun hc => ?_⟩
  · simp only [if_pos hc] at hQ
    intro x16 h_; subst h_
    refine ⟨fun hc => ?_, fun hc => ?_⟩
    · simp only [if_pos hc] at hQ
      exact sp_R_keys_j2 _ _ _ _ hQ
    · simp only [if_neg hc] at hQ
      intro M22 h_; subst h_
      exact sp_R_keys_j2 _ _ _ _ hQ
  · simp only [if_neg hc] at hQ
    exact hQ
def f_R_keys_v (M0 : Mem) (a1 : Int32) : Int32 := let M1 : Mem := mst M0 0 0 (0 : Int32); let x2 : Int32 := f_R_in_v M1 a1 (0 : Int32) (255 : Int32); (if x2 = 0 then (f_R_keys_j1_v a1 M1 (1 : Int32)) else (f_R_keys_j1_v a1 M1 (0 : Int32)))
def f_R_keys_m (M0 : Mem) (a1 : Int32) : Mem := let M1 : Mem := mst M0 0 0 (0 : Int32); let x2 : Int32 := f_R_in_v M1 a1 (0 : Int32) (255 : Int32); (if x2 = 0 then (f_R_keys_j1_m a1 M1 (1 : Int32)) else (f_R_keys_j1_m a1 M1 (0 : Int32)))
def ok_R_keys (M0 : Mem) (a1 : Int32) : Prop := ∀ M1 : Mem, M1 = mst M0 0 0 (0 : Int32) → ok_R_in M1 a1 (0 : Int32) (255 : Int32) ∧ (∀ x2 : Int32, x2 = f_R_in_v M1 a1 (0 : Int32) (255 : Int32) → (((¬ x2 = 0) → ok_R_keys_j1 a1 M1 (0 : Int32)) ∧ ((x2 = 0) → ok_R_keys_j1 a1 M1 (1 : Int32))))
set_option maxRecDepth 100000 in
set_option maxHeartbeats 4000000 in
theorem sp_R_keys (M0 : Mem) (a1 : Int32) (Q : Int32 → Mem → Prop) (hok : ok_R_keys M0 a1) (hQ : Q (f_R_keys_v M0 a1) (f_R_keys_m M0 a1)) : wp_R_keys M0 a1 Q := by
  unfold wp_R_keys
  unfold ok_R_keys at hok
  unfold f_R_keys_v f_R_keys_m at hQ
  intro M1 h_; subst h_
  have hok := hok _ rfl
  refine sp_R_in _ _ _ _ _ hok.1 ?_
  have hok := hok.2 _ rfl
  refine ⟨fun hc => ?_, fun hc => ?_⟩
  · simp only [if_neg hc] at hQ
    have hok := hok.1 hc
    exact sp_R_keys_j1 _ _ _ _ hok hQ
  · simp only [if_pos hc] at hQ
    have hok := hok.2 hc
    exact sp_R_keys_j1 _ _ _ _ hok hQ
def f_R_dots_v (M0 : Mem) (a1 : Int32) (a2 : Int32) : Int32 := ((((M0 3 ((a1 - (32768 : Int32))).toNatClampNeg) >>> (((7 : Int32) - a2) &&& (31 : Int32))) &&& (1 : Int32)) ||| ((((M0 3 ((a1 - (32767 : Int32))).toNatClampNeg) >>> (((7 : Int32) - a2) &&& (31 : Int32))) &&& (1 : Int32)) <<< ((1 : Int32) &&& (31 : Int32))))
def ok_R_dots (M0 : Mem) (a1 : Int32) (a2 : Int32) : Prop := vp_in (a1 - (32768 : Int32)) 8192 ∧ (vp_in (a1 - (32767 : Int32)) 8192)
set_option maxRecDepth 100000 in
set_option maxHeartbeats 4000000 in
theorem sp_R_dots (M0 : Mem) (a1 : Int32) (a2 : Int32) (Q : Int32 → Prop) (hok : ok_R_dots M0 a1 a2) (hQ : Q (f_R_dots_v M0 a1 a2)) : wp_R_dots M0 a1 a2 Q := by
  unfold wp_R_dots
  unfold ok_R_dots at hok
  unfold f_R_dots_v at hQ
  refine ⟨hok.1, ?_⟩
  have hok := hok.2
  refine ⟨hok, ?_⟩
  exact hQ
def f_R_background_j6_v (M0 : Mem) (x216 : Int32) (x252 : Int32) (x284 : Int32) : Int32 := let x285 : Int32 := f_R_dots_v M0 (x284 + ((2 : Int32) * (x252 &&& (7 : Int32)))) (x216 &&& (7 : Int32)); x285
def ok_R_background_j6 (M0 : Mem) (x216 : Int32) (x252 : Int32) (x284 : Int32) : Prop := ok_R_dots M0 (x284 + ((2 : Int32) * (x252 &&& (7 : Int32)))) (x216 &&& (7 : Int32))
set_option maxRecDepth 100000 in
set_option maxHeartbeats 4000000 in
theorem sp_R_background_j6 (M0 : Mem) (x216 : Int32) (x252 : Int32) (x284 : Int32) (Q : Int32 → Prop) (hok : ok_R_background_j6 M0 x216 x252 x284) (hQ : Q (f_R_background_j6_v M0 x216 x252 x284)) : wp_R_background_j6 M0 x216 x252 x284 Q := by
  unfold wp_R_background_j6
  unfold ok_R_background_j6 at hok
  unfold f_R_background_j6_v at hQ
  refine sp_R_dots _ _ _ _ hok ?_
  exact hQ
def f_R_background_j5_v (M0 : Mem) (x216 : Int32) (x252 : Int32) (x279 : Int32) : Int32 := let x280 : Int32 := (M0 3 ((((x279 + ((32 : Int32) * (x252 / (8 : Int32)))) + (x216 / (8 : Int32))) - (32768 : Int32))).toNatClampNeg); (if ((M0 0 33) &&& (16 : Int32)) ≤ 0 then let x286 : Int32 := f_R_signed_v M0 x280; (f_R_background_j6_v M0 x216 x252 ((36864 : Int32) + ((16 : Int32) * x286))) else (f_R_background_j6_v M0 x216 x252 ((32768 : Int32) + ((16 : Int32) * x280))))
def ok_R_background_j5 (M0 : Mem) (x216 : Int32) (x252 : Int32) (x279 : Int32) : Prop := vp_in (((x279 + ((32 : Int32) * (x252 / (8 : Int32)))) + (x216 / (8 : Int32))) - (32768 : Int32)) 8192 ∧ (∀ x280 : Int32, x280 = (M0 3 ((((x279 + ((32 : Int32) * (x252 / (8 : Int32)))) + (x216 / (8 : Int32))) - (32768 : Int32))).toNatClampNeg) → (((((M0 0 33) &&& (16 : Int32)) ≤ 0) → ∀ x286 : Int32, x286 = f_R_signed_v M0 x280 → ok_R_background_j6 M0 x216 x252 ((36864 : Int32) + ((16 : Int32) * x286))) ∧ ((¬ ((M0 0 33) &&& (16 : Int32)) ≤ 0) → ok_R_background_j6 M0 x216 x252 ((32768 : Int32) + ((16 : Int32) * x280)))))
set_option maxRecDepth 100000 in
set_option maxHeartbeats 4000000 in
theorem sp_R_background_j5 (M0 : Mem) (x216 : Int32) (x252 : Int32) (x279 : Int32) (Q : Int32 → Prop) (hok : ok_R_background_j5 M0 x216 x252 x279) (hQ : Q (f_R_background_j5_v M0 x216 x252 x279)) : wp_R_background_j5 M0 x216 x252 x279 Q := by
  unfold wp_R_background_j5
  unfold ok_R_background_j5 at hok
  unfold f_R_background_j5_v at hQ
  refine ⟨hok.1, ?_⟩
  have hok := hok.2
  intro x280 h_; subst h_
  have hok := hok _ rfl
  refine ⟨fun hc => ?_, fun hc => ?_⟩
  · simp only [if_pos hc] at hQ
    have hok := hok.1 hc
    refine sp_R_signed _ _ _ ?_
    have hok := hok _ rfl
    exact sp_R_background_j6 _ _ _ _ _ hok hQ
  · simp only [if_neg hc] at hQ
    have hok := hok.2 hc
    exact sp_R_background_j6 _ _ _ _ _ hok hQ
def f_R_background_j4_v (M0 : Mem) (x216 : Int32) (x252 : Int32) (x270 : Int32) : Int32 := (if ((M0 0 33) &&& x270) ≤ 0 then (f_R_background_j5_v M0 x216 x252 (38912 : Int32)) else (f_R_background_j5_v M0 x216 x252 (39936 : Int32)))
def ok_R_background_j4 (M0 : Mem) (x216 : Int32) (x252 : Int32) (x270 : Int32) : Prop := (((((M0 0 33) &&& x270) ≤ 0) → ok_R_background_j5 M0 x216 x252 (38912 : Int32)) ∧ ((¬ ((M0 0 33) &&& x270) ≤ 0) → ok_R_background_j5 M0 x216 x252 (39936 : Int32)))
set_option maxRecDepth 100000 in
set_option maxHeartbeats 4000000 in
theorem sp_R_background_j4 (M0 : Mem) (x216 : Int32) (x252 : Int32) (x270 : Int32) (Q : Int32 → Prop) (hok : ok_R_background_j4 M0 x216 x252 x270) (hQ : Q (f_R_background_j4_v M0 x216 x252 x270)) : wp_R_background_j4 M0 x216 x252 x270 Q := by
  unfold wp_R_background_j4
  unfold ok_R_background_j4 at hok
  unfold f_R_background_j4_v at hQ
  refine ⟨fun hc => ?_, fun hc => ?_⟩
  · simp only [if_pos hc] at hQ
    have hok := hok.1 hc
    exact sp_R_background_j5 _ _ _ _ _ hok hQ
  · simp only [if_neg hc] at hQ
    have hok := hok.2 hc
    exact sp_R_background_j5 _ _ _ _ _ hok hQ
def f_R_background_j3_v (M0 : Mem) (x144 : Int32) (x216 : Int32) (x252 : Int32) : Int32 := (if x144 = 0 then (f_R_background_j4_v M0 x216 x252 (8 : Int32)) else (f_R_background_j4_v M0 x216 x252 (64 : Int32)))
def ok_R_background_j3 (M0 : Mem) (x144 : Int32) (x216 : Int32) (x252 : Int32) : Prop := (((x144 = 0) → ok_R_background_j4 M0 x216 x252 (8 : Int32)) ∧ ((¬ x144 = 0) → ok_R_background_j4 M0 x216 x252 (64 : Int32)))
set_option maxRecDepth 100000 in
set_option maxHeartbeats 4000000 in
theorem sp_R_background_j3 (M0 : Mem) (x144 : Int32) (x216 : Int32) (x252 : Int32) (Q : Int32 → Prop) (hok : ok_R_background_j3 M0 x144 x216 x252) (hQ : Q (f_R_background_j3_v M0 x144 x216 x252)) : wp_R_background_j3 M0 x144 x216 x252 Q := by
  unfold wp_R_background_j3
  unfold ok_R_background_j3 at hok
  unfold f_R_background_j3_v at hQ
  refine ⟨fun hc => ?_, fun hc => ?_⟩
  · simp only [if_pos hc] at hQ
    have hok := hok.1 hc
    exact sp_R_background_j4 _ _ _ _ _ hok hQ
  · simp only [if_neg hc] at hQ
    have hok := hok.2 hc
    exact sp_R_background_j4 _ _ _ _ _ hok hQ
def f_R_background_j2_v (M0 : Mem) (a2 : Int32) (x144 : Int32) (x216 : Int32) : Int32 := (if x144 = 0 then (f_R_background_j3_v M0 x144 x216 ((a2 + (M0 0 35)) &&& (255 : Int32))) else (f_R_background_j3_v M0 x144 x216 (a2 - (M0 0 43))))
def ok_R_background_j2 (M0 : Mem) (a2 : Int32) (x144 : Int32) (x216 : Int32) : Prop := (((x144 = 0) → ok_R_background_j3 M0 x144 x216 ((a2 + (M0 0 35)) &&& (255 : Int32))) ∧ ((¬ x144 = 0) → ok_R_background_j3 M0 x144 x216 (a2 - (M0 0 43))))
set_option maxRecDepth 100000 in
set_option maxHeartbeats 4000000 in
theorem sp_R_background_j2 (M0 : Mem) (a2 : Int32) (x144 : Int32) (x216 : Int32) (Q : Int32 → Prop) (hok : ok_R_background_j2 M0 a2 x144 x216) (hQ : Q (f_R_background_j2_v M0 a2 x144 x216)) : wp_R_background_j2 M0 a2 x144 x216 Q := by
  unfold wp_R_background_j2
  unfold ok_R_background_j2 at hok
  unfold f_R_background_j2_v at hQ
  refine ⟨fun hc => ?_, fun hc => ?_⟩
  · simp only [if_pos hc] at hQ
    have hok := hok.1 hc
    exact sp_R_background_j3 _ _ _ _ _ hok hQ
  · simp only [if_neg hc] at hQ
    have hok := hok.2 hc
    exact sp_R_background_j3 _ _ _ _ _ hok hQ
def f_R_background_j1_v (M0 : Mem) (a1 : Int32) (a2 : Int32) (x144 : Int32) : Int32 := (if x144 = 0 then (f_R_background_j2_v M0 a2 x144 ((a1 + (M0 0 36)) &&& (255 : Int32))) else (f_R_background_j2_v M0 a2 x144 ((a1 + (7 : Int32)) - (M0 0 44))))
def ok_R_background_j1 (M0 : Mem) (a1 : Int32) (a2 : Int32) (x144 : Int32) : Prop := (((x144 = 0) → ok_R_background_j2 M0 a2 x144 ((a1 + (M0 0 36)) &&& (255 : Int32))) ∧ ((¬ x144 = 0) → ok_R_background_j2 M0 a2 x144 ((a1 + (7 : Int32)) - (M0 0 44))))
set_option maxRecDepth 100000 in
set_option maxHeartbeats 4000000 in
theorem sp_R_background_j1 (M0 : Mem) (a1 : Int32) (a2 : Int32) (x144 : Int32) (Q : Int32 → Prop) (hok : ok_R_background_j1 M0 a1 a2 x144) (hQ : Q (f_R_background_j1_v M0 a1 a2 x144)) : wp_R_background_j1 M0 a1 a2 x144 Q := by
  unfold wp_R_background_j1
  unfold ok_R_background_j1 at hok
  unfold f_R_background_j1_v at hQ
  refine ⟨fun hc => ?_, fun hc => ?_⟩
  · simp only [if_pos hc] at hQ
    have hok := hok.1 hc
    exact sp_R_background_j2 _ _ _ _ _ hok hQ
  · simp only [if_neg hc] at hQ
    have hok := hok.2 hc
    exact sp_R_background_j2 _ _ _ _ _ hok hQ
def f_R_background_j7_v (M0 : Mem) (a1 : Int32) (a2 : Int32) : Int32 := (f_R_background_j1_v M0 a1 a2 (0 : Int32))
def ok_R_background_j7 (M0 : Mem) (a1 : Int32) (a2 : Int32) : Prop := ok_R_background_j1 M0 a1 a2 (0 : Int32)
set_option maxRecDepth 100000 in
set_option maxHeartbeats 4000000 in
theorem sp_R_background_j7 (M0 : Mem) (a1 : Int32) (a2 : Int32) (Q : Int32 → Prop) (hok : ok_R_background_j7 M0 a1 a2) (hQ : Q (f_R_background_j7_v M0 a1 a2)) : wp_R_background_j7 M0 a1 a2 Q := by
  unfold wp_R_background_j7
  unfold ok_R_background_j7 at hok
  unfold f_R_background_j7_v at hQ
  exact sp_R_background_j1 _ _ _ _ _ hok hQ
def f_R_background_v (M0 : Mem) (a1 : Int32) (a2 : Int32) : Int32 := (if ((M0 0 33) &&& (1 : Int32)) = 0 then (0 : Int32) else (if ((M0 0 33) &&& (32 : Int32)) ≤ 0 then (f_R_background_j7_v M0 a1 a2) else (if a2 < (M0 0 43) then (f_R_background_j7_v M0 a1 a2) else (if (a1 + (7 : Int32)) < (M0 0 44) then (f_R_background_j7_v M0 a1 a2) else (f_R_background_j1_v M0 a1 a2 (1 : Int32))))))
def ok_R_background (M0 : Mem) (a1 : Int32) (a2 : Int32) : Prop := (((¬ ((M0 0 33) &&& (1 : Int32)) = 0) → (((((M0 0 33) &&& (32 : Int32)) ≤ 0) → ok_R_background_j7 M0 a1 a2) ∧ ((¬ ((M0 0 33) &&& (32 : Int32)) ≤ 0) → (((a2 < (M0 0 43)) → ok_R_background_j7 M0 a1 a2) ∧ ((¬ a2 < (M0 0 43)) → ((((a1 + (7 : Int32)) < (M0 0 44)) → ok_R_background_j7 M0 a1 a2) ∧ ((¬ (a1 + (7 : Int32)) < (M0 0 44)) → ok_R_background_j1 M0 a1 a2 (1 : Int32)))))))) ∧ ((((M0 0 33) &&& (1 : Int32)) = 0) → True))
set_option maxRecDepth 100000 in
set_option maxHeartbeats 4000000 in
theorem sp_R_background (M0 : Mem) (a1 : Int32) (a2 : Int32) (Q : Int32 → Prop) (hok : ok_R_background M0 a1 a2) (hQ : Q (f_R_background_v M0 a1 a2)) : wp_R_background M0 a1 a2 Q := by
  unfold wp_R_background
  unfold ok_R_background at hok
  unfold f_R_background_v at hQ
  refine ⟨fun hc => ?_, fun hc => ?_⟩
  · simp only [if_neg hc] at hQ
    have hok := hok.1 hc
    refine ⟨fun hc => ?_, fun hc => ?_⟩
    · simp only [if_pos hc] at hQ
      have hok := hok.1 hc
      exact sp_R_background_j7 _ _ _ _ hok hQ
    · simp only [if_neg hc] at hQ
      have hok := hok.2 hc
      refine ⟨fun hc => ?_, fun hc => ?_⟩
      · simp only [if_pos hc] at hQ
        have hok := hok.1 hc
        exact sp_R_background_j7 _ _ _ _ hok hQ
      · simp only [if_neg hc] at hQ
        have hok := hok.2 hc
        refine ⟨fun hc => ?_, fun hc => ?_⟩
        · simp only [if_pos hc] at hQ
          have hok := hok.1 hc
          exact sp_R_background_j7 _ _ _ _ hok hQ
        · simp only [if_neg hc] at hQ
          have hok := hok.2 hc
          exact sp_R_background_j1 _ _ _ _ _ hok hQ
  · simp only [if_pos hc] at hQ
    exact hQ
def f_R_number_j3_v (M0 : Mem) (x13 : Int32) (x19 : Int32) (x22 : Int32) : Int32 := let x23 : Int32 := f_R_dots_v M0 (((32768 : Int32) + ((16 : Int32) * x13)) + ((2 : Int32) * x19)) x22; x23
def ok_R_number_j3 (M0 : Mem) (x13 : Int32) (x19 : Int32) (x22 : Int32) : Prop := ok_R_dots M0 (((32768 : Int32) + ((16 : Int32) * x13)) + ((2 : Int32) * x19)) x22
set_option maxRecDepth 100000 in
set_option maxHeartbeats 4000000 in
theorem sp_R_number_j3 (M0 : Mem) (x13 : Int32) (x19 : Int32) (x22 : Int32) (Q : Int32 → Prop) (hok : ok_R_number_j3 M0 x13 x19 x22) (hQ : Q (f_R_number_j3_v M0 x13 x19 x22)) : wp_R_number_j3 M0 x13 x19 x22 Q := by
  unfold wp_R_number_j3
  unfold ok_R_number_j3 at hok
  unfold f_R_number_j3_v at hQ
  refine sp_R_dots _ _ _ _ hok ?_
  exact hQ
def f_R_number_j2_v (M0 : Mem) (a3 : Int32) (x1 : Int32) (x13 : Int32) (x19 : Int32) : Int32 := (if (x1 &&& (32 : Int32)) ≤ 0 then (f_R_number_j3_v M0 x13 x19 a3) else (f_R_number_j3_v M0 x13 x19 ((7 : Int32) - a3)))
def ok_R_number_j2 (M0 : Mem) (a3 : Int32) (x1 : Int32) (x13 : Int32) (x19 : Int32) : Prop := ((((x1 &&& (32 : Int32)) ≤ 0) → ok_R_number_j3 M0 x13 x19 a3) ∧ ((¬ (x1 &&& (32 : Int32)) ≤ 0) → ok_R_number_j3 M0 x13 x19 ((7 : Int32) - a3)))
set_option maxRecDepth 100000 in
set_option maxHeartbeats 4000000 in
theorem sp_R_number_j2 (M0 : Mem) (a3 : Int32) (x1 : Int32) (x13 : Int32) (x19 : Int32) (Q : Int32 → Prop) (hok : ok_R_number_j2 M0 a3 x1 x13 x19) (hQ : Q (f_R_number_j2_v M0 a3 x1 x13 x19)) : wp_R_number_j2 M0 a3 x1 x13 x19 Q := by
  unfold wp_R_number_j2
  unfold ok_R_number_j2 at hok
  unfold f_R_number_j2_v at hQ
  refine ⟨fun hc => ?_, fun hc => ?_⟩
  · simp only [if_pos hc] at hQ
    have hok := hok.1 hc
    exact sp_R_number_j3 _ _ _ _ _ hok hQ
  · simp only [if_neg hc] at hQ
    have hok := hok.2 hc
    exact sp_R_number_j3 _ _ _ _ _ hok hQ
def f_R_number_j1_v (M0 : Mem) (a2 : Int32) (a3 : Int32) (a4 : Int32) (x1 : Int32) (x13 : Int32) : Int32 := (if (x1 &&& (64 : Int32)) ≤ 0 then (f_R_number_j2_v M0 a3 x1 x13 a2) else (f_R_number_j2_v M0 a3 x1 x13 ((a4 - (1 : Int32)) - a2)))
def ok_R_number_j1 (M0 : Mem) (a2 : Int32) (a3 : Int32) (a4 : Int32) (x1 : Int32) (x13 : Int32) : Prop := ((((x1 &&& (64 : Int32)) ≤ 0) → ok_R_number_j2 M0 a3 x1 x13 a2) ∧ ((¬ (x1 &&& (64 : Int32)) ≤ 0) → ok_R_number_j2 M0 a3 x1 x13 ((a4 - (1 : Int32)) - a2)))
set_option maxRecDepth 100000 in
set_option maxHeartbeats 4000000 in
theorem sp_R_number_j1 (M0 : Mem) (a2 : Int32) (a3 : Int32) (a4 : Int32) (x1 : Int32) (x13 : Int32) (Q : Int32 → Prop) (hok : ok_R_number_j1 M0 a2 a3 a4 x1 x13) (hQ : Q (f_R_number_j1_v M0 a2 a3 a4 x1 x13)) : wp_R_number_j1 M0 a2 a3 a4 x1 x13 Q := by
  unfold wp_R_number_j1
  unfold ok_R_number_j1 at hok
  unfold f_R_number_j1_v at hQ
  refine ⟨fun hc => ?_, fun hc => ?_⟩
  · simp only [if_pos hc] at hQ
    have hok := hok.1 hc
    exact sp_R_number_j2 _ _ _ _ _ _ hok hQ
  · simp only [if_neg hc] at hQ
    have hok := hok.2 hc
    exact sp_R_number_j2 _ _ _ _ _ _ hok hQ
def f_R_number_v (M0 : Mem) (a1 : Int32) (a2 : Int32) (a3 : Int32) (a4 : Int32) : Int32 := let x1 : Int32 := (M0 5 ((a1 + (3 : Int32))).toNatClampNeg); (if a4 = (16 : Int32) then (f_R_number_j1_v M0 a2 a3 a4 x1 ((M0 5 ((a1 + (2 : Int32))).toNatClampNeg) &&& (254 : Int32))) else (f_R_number_j1_v M0 a2 a3 a4 x1 (M0 5 ((a1 + (2 : Int32))).toNatClampNeg)))
def ok_R_number (M0 : Mem) (a1 : Int32) (a2 : Int32) (a3 : Int32) (a4 : Int32) : Prop := vp_in (a1 + (3 : Int32)) 160 ∧ (∀ x1 : Int32, x1 = (M0 5 ((a1 + (3 : Int32))).toNatClampNeg) → (((¬ a4 = (16 : Int32)) → vp_in (a1 + (2 : Int32)) 160 ∧ (ok_R_number_j1 M0 a2 a3 a4 x1 (M0 5 ((a1 + (2 : Int32))).toNatClampNeg))) ∧ ((a4 = (16 : Int32)) → vp_in (a1 + (2 : Int32)) 160 ∧ (ok_R_number_j1 M0 a2 a3 a4 x1 ((M0 5 ((a1 + (2 : Int32))).toNatClampNeg) &&& (254 : Int32))))))
set_option maxRecDepth 100000 in
set_option maxHeartbeats 4000000 in
theorem sp_R_number (M0 : Mem) (a1 : Int32) (a2 : Int32) (a3 : Int32) (a4 : Int32) (Q : Int32 → Prop) (hok : ok_R_number M0 a1 a2 a3 a4) (hQ : Q (f_R_number_v M0 a1 a2 a3 a4)) : wp_R_number M0 a1 a2 a3 a4 Q := by
  unfold wp_R_number
  unfold ok_R_number at hok
  unfold f_R_number_v at hQ
  refine ⟨hok.1, ?_⟩
  have hok := hok.2
  intro x1 h_; subst h_
  have hok := hok _ rfl
  refine ⟨fun hc => ?_, fun hc => ?_⟩
  · simp only [if_neg hc] at hQ
    have hok := hok.1 hc
    refine ⟨hok.1, ?_⟩
    have hok := hok.2
    exact sp_R_number_j1 _ _ _ _ _ _ _ hok hQ
  · simp only [if_pos hc] at hQ
    have hok := hok.2 hc
    refine ⟨hok.1, ?_⟩
    have hok := hok.2
    exact sp_R_number_j1 _ _ _ _ _ _ _ hok hQ
def f_R_sprite_j2_v (x31 : Int32) : Int32 := x31
set_option maxRecDepth 100000 in
set_option maxHeartbeats 4000000 in
theorem sp_R_sprite_j2 (x31 : Int32) (Q : Int32 → Prop) (hQ : Q (f_R_sprite_j2_v x31)) : wp_R_sprite_j2 x31 Q := by
  unfold wp_R_sprite_j2
  unfold f_R_sprite_j2_v at hQ
  exact hQ
def f_R_sprite_j3_v (x32 : Int32) (K1_v : Int32 → Int32 → Int32 → Int32) (x52 : Int32) (x53 : Int32) : Int32 := let x54 : Int32 := x32 + (4 : Int32); (K1_v x52 x53 x54)
def ok_R_sprite_j3 (x32 : Int32) (K1_ok : Int32 → Int32 → Int32 → Prop) (x52 : Int32) (x53 : Int32) : Prop := ∀ x54 : Int32, x54 = x32 + (4 : Int32) → K1_ok x52 x53 x54
set_option maxRecDepth 100000 in
set_option maxHeartbeats 4000000 in
theorem sp_R_sprite_j3 (x32 : Int32) {Q : Int32 → Prop} (K1 : Int32 → Int32 → Int32 → Prop) (K1_v : Int32 → Int32 → Int32 → Int32) (K1_ok : Int32 → Int32 → Int32 → Prop) (hK1 : ∀ (z0 : Int32) (z1 : Int32) (z2 : Int32), K1_ok z0 z1 z2 → Q (K1_v z0 z1 z2) → K1 z0 z1 z2) (x52 : Int32) (x53 : Int32) (hok : ok_R_sprite_j3 x32 K1_ok x52 x53) (hQ : Q (f_R_sprite_j3_v x32 K1_v x52 x53)) : wp_R_sprite_j3 x32 K1 x52 x53 Q := by
  unfold wp_R_sprite_j3
  unfold ok_R_sprite_j3 at hok
  unfold f_R_sprite_j3_v at hQ
  intro x54 h_; subst h_
  have hok := hok _ rfl
  exact hK1 _ _ _  hok hQ
def f_R_sprite_j4_v (x32 : Int32) (x55 : Int32) (K1_v : Int32 → Int32 → Int32 → Int32) : Int32 := (f_R_sprite_j3_v x32 K1_v x55 x32)
def ok_R_sprite_j4 (x32 : Int32) (x55 : Int32) (K1_ok : Int32 → Int32 → Int32 → Prop) : Prop := ok_R_sprite_j3 x32 K1_ok x55 x32
set_option maxRecDepth 100000 in
set_option maxHeartbeats 4000000 in
theorem sp_R_sprite_j4 (x32 : Int32) (x55 : Int32) {Q : Int32 → Prop} (K1 : Int32 → Int32 → Int32 → Prop) (K1_v : Int32 → Int32 → Int32 → Int32) (K1_ok : Int32 → Int32 → Int32 → Prop) (hK1 : ∀ (z0 : Int32) (z1 : Int32) (z2 : Int32), K1_ok z0 z1 z2 → Q (K1_v z0 z1 z2) → K1 z0 z1 z2) (hok : ok_R_sprite_j4 x32 x55 K1_ok) (hQ : Q (f_R_sprite_j4_v x32 x55 K1_v)) : wp_R_sprite_j4 x32 x55 K1 Q := by
  unfold wp_R_sprite_j4
  unfold ok_R_sprite_j4 at hok
  unfold f_R_sprite_j4_v at hQ
  exact sp_R_sprite_j3 _ _ _ _ hK1 _ _  hok hQ
def f_R_sprite_l1_v (M0 : Mem) (a1 : Int32) (a2 : Int32) (x29 : Int32) (n : Nat) : Int32 → Int32 → Int32 → Int32 := Nat.rec (motive := fun _ => Int32 → Int32 → Int32 → Int32) (fun _ _ _ => 0) (fun _ K1_v x30 x31 x32 => (if (160 : Int32) ≤ x32 then (f_R_sprite_j2_v x31) else (if (10 : Int32) ≤ x30 then (f_R_sprite_j2_v x31) else (if ((M0 0 33) &&& (2 : Int32)) ≤ 0 then (f_R_sprite_j2_v x31) else let x45 : Int32 := (a2 - ((M0 5 x32.toNatClampNeg) - (16 : Int32))); let x46 : Int32 := (a1 - ((M0 5 ((x32 + (1 : Int32))).toNatClampNeg) - (8 : Int32))); (if x45 < 0 then (f_R_sprite_j3_v x32 K1_v x30 x31) else (if x45 < x29 then let x55 : Int32 := x30 + (1 : Int32); (if x46 < 0 then (f_R_sprite_j3_v x32 K1_v x55 x31) else (if (7 : Int32) < x46 then (f_R_sprite_j3_v x32 K1_v x55 x31) else let x56 : Int32 := f_R_number_v M0 x32 x45 x46 x29; (if x56 = 0 then (f_R_sprite_j3_v x32 K1_v x55 x31) else (if x31 < 0 then (f_R_sprite_j4_v x32 x55 K1_v) else (if (M0 5 ((x31 + (1 : Int32))).toNatClampNeg) ≤ (M0 5 ((x32 + (1 : Int32))).toNatClampNeg) then (f_R_sprite_j3_v x32 K1_v x55 x31) else (f_R_sprite_j4_v x32 x55 K1_v)))))) else (f_R_sprite_j3_v x32 K1_v x30 x31))))))) n
theorem f_R_sprite_l1_v_s (M0 : Mem) (a1 : Int32) (a2 : Int32) (x29 : Int32) (n : Nat) (x30 : Int32) (x31 : Int32) (x32 : Int32) : f_R_sprite_l1_v M0 a1 a2 x29 (n + 1) x30 x31 x32 = (let K1_v : Int32 → Int32 → Int32 → Int32 := f_R_sprite_l1_v M0 a1 a2 x29 n; (if (160 : Int32) ≤ x32 then (f_R_sprite_j2_v x31) else (if (10 : Int32) ≤ x30 then (f_R_sprite_j2_v x31) else (if ((M0 0 33) &&& (2 : Int32)) ≤ 0 then (f_R_sprite_j2_v x31) else let x45 : Int32 := (a2 - ((M0 5 x32.toNatClampNeg) - (16 : Int32))); let x46 : Int32 := (a1 - ((M0 5 ((x32 + (1 : Int32))).toNatClampNeg) - (8 : Int32))); (if x45 < 0 then (f_R_sprite_j3_v x32 K1_v x30 x31) else (if x45 < x29 then let x55 : Int32 := x30 + (1 : Int32); (if x46 < 0 then (f_R_sprite_j3_v x32 K1_v x55 x31) else (if (7 : Int32) < x46 then (f_R_sprite_j3_v x32 K1_v x55 x31) else let x56 : Int32 := f_R_number_v M0 x32 x45 x46 x29; (if x56 = 0 then (f_R_sprite_j3_v x32 K1_v x55 x31) else (if x31 < 0 then (f_R_sprite_j4_v x32 x55 K1_v) else (if (M0 5 ((x31 + (1 : Int32))).toNatClampNeg) ≤ (M0 5 ((x32 + (1 : Int32))).toNatClampNeg) then (f_R_sprite_j3_v x32 K1_v x55 x31) else (f_R_sprite_j4_v x32 x55 K1_v)))))) else (f_R_sprite_j3_v x32 K1_v x30 x31))))))) := rfl
def ok_R_sprite_l1 (M0 : Mem) (a1 : Int32) (a2 : Int32) (x29 : Int32) (n : Nat) : Int32 → Int32 → Int32 → Prop := Nat.rec (motive := fun _ => Int32 → Int32 → Int32 → Prop) (fun _ _ _ => False) (fun _ K1_ok x30 x31 x32 => ((((160 : Int32) ≤ x32) → True) ∧ ((¬ (160 : Int32) ≤ x32) → ((((10 : Int32) ≤ x30) → True) ∧ ((¬ (10 : Int32) ≤ x30) → (((((M0 0 33) &&& (2 : Int32)) ≤ 0) → True) ∧ ((¬ ((M0 0 33) &&& (2 : Int32)) ≤ 0) → vp_in x32 160 ∧ (∀ x45 : Int32, x45 = (a2 - ((M0 5 x32.toNatClampNeg) - (16 : Int32))) → vp_in (x32 + (1 : Int32)) 160 ∧ (∀ x46 : Int32, x46 = (a1 - ((M0 5 ((x32 + (1 : Int32))).toNatClampNeg) - (8 : Int32))) → (((x45 < 0) → ok_R_sprite_j3 x32 K1_ok x30 x31) ∧ ((¬ x45 < 0) → (((x45 < x29) → ∀ x55 : Int32, x55 = x30 + (1 : Int32) → (((x46 < 0) → ok_R_sprite_j3 x32 K1_ok x55 x31) ∧ ((¬ x46 < 0) → ((((7 : Int32) < x46) → ok_R_sprite_j3 x32 K1_ok x55 x31) ∧ ((¬ (7 : Int32) < x46) → ok_R_number M0 x32 x45 x46 x29 ∧ (∀ x56 : Int32, x56 = f_R_number_v M0 x32 x45 x46 x29 → (((¬ x56 = 0) → (((x31 < 0) → ok_R_sprite_j4 x32 x55 K1_ok) ∧ ((¬ x31 < 0) → vp_in (x32 + (1 : Int32)) 160 ∧ (vp_in (x31 + (1 : Int32)) 160 ∧ (((((M0 5 ((x31 + (1 : Int32))).toNatClampNeg) ≤ (M0 5 ((x32 + (1 : Int32))).toNatClampNeg)) → ok_R_sprite_j3 x32 K1_ok x55 x31) ∧ ((¬ (M0 5 ((x31 + (1 : Int32))).toNatClampNeg) ≤ (M0 5 ((x32 + (1 : Int32))).toNatClampNeg)) → ok_R_sprite_j4 x32 x55 K1_ok))))))) ∧ ((x56 = 0) → ok_R_sprite_j3 x32 K1_ok x55 x31)))))))) ∧ ((¬ x45 < x29) → ok_R_sprite_j3 x32 K1_ok x30 x31))))))))))))) n
set_option maxRecDepth 100000 in
set_option maxHeartbeats 4000000 in
theorem sp_R_sprite_l1 (M0 : Mem) (a1 : Int32) (a2 : Int32) (x29 : Int32) {Q : Int32 → Prop} : ∀ (n : Nat) (x30 : Int32) (x31 : Int32) (x32 : Int32), ok_R_sprite_l1 M0 a1 a2 x29 n x30 x31 x32 → Q (f_R_sprite_l1_v M0 a1 a2 x29 n x30 x31 x32) → wp_R_sprite_l1 M0 a1 a2 x29 Q n x30 x31 x32 := by
  intro n
  induction n with
  | zero => intro x30 x31 x32 hok; exact False.elim hok
  | succ n ih =>
    intro x30 x31 x32 hok hQ
    have hK1 := ih
    rw [f_R_sprite_l1_v_s] at hQ
    refine ⟨fun hc => ?_, fun hc => ?_⟩
    · simp only [if_pos hc] at hQ
      exact sp_R_sprite_j2 _ _ hQ
    · simp only [if_neg hc] at hQ
      have hok := hok.2 hc
      refine ⟨fun hc => ?_, fun hc => ?_⟩
      · simp only [if_pos hc] at hQ
        exact sp_R_sprite_j2 _ _ hQ
      · simp only [if_neg hc] at hQ
        have hok := hok.2 hc
        refine ⟨fun hc => ?_, fun hc => ?_⟩
        · simp only [if_pos hc] at hQ
          exact sp_R_sprite_j2 _ _ hQ
        · simp only [if_neg hc] at hQ
          have hok := hok.2 hc
          refine ⟨hok.1, ?_⟩
          have hok := hok.2
          intro x45 h_; subst h_
          have hok := hok _ rfl
          refine ⟨hok.1, ?_⟩
          have hok := hok.2
          intro x46 h_; subst h_
          have hok := hok _ rfl
          refine ⟨fun hc => ?_, fun hc => ?_⟩
          · simp only [if_pos hc] at hQ
            have hok := hok.1 hc
            exact sp_R_sprite_j3 _ _ _ _ hK1 _ _  hok hQ
          · simp only [if_neg hc] at hQ
            have hok := hok.2 hc
            refine ⟨fun hc => ?_, fun hc => ?_⟩
            · simp only [if_pos hc] at hQ
              have hok := hok.1 hc
              intro x55 h_; subst h_
              have hok := hok _ rfl
              refine ⟨fun hc => ?_, fun hc => ?_⟩
              · simp only [if_pos hc] at hQ
                have hok := hok.1 hc
                exact sp_R_sprite_j3 _ _ _ _ hK1 _ _  hok hQ
              · simp only [if_neg hc] at hQ
                have hok := hok.2 hc
                refine ⟨fun hc => ?_, fun hc => ?_⟩
                · simp only [if_pos hc] at hQ
                  have hok := hok.1 hc
                  exact sp_R_sprite_j3 _ _ _ _ hK1 _ _  hok hQ
                · simp only [if_neg hc] at hQ
                  have hok := hok.2 hc
                  refine sp_R_number _ _ _ _ _ _ hok.1 ?_
                  have hok := hok.2 _ rfl
                  refine ⟨fun hc => ?_, fun hc => ?_⟩
                  · simp only [if_neg hc] at hQ
                    have hok := hok.1 hc
                    refine ⟨fun hc => ?_, fun hc => ?_⟩
                    · simp only [if_pos hc] at hQ
                      have hok := hok.1 hc
                      exact sp_R_sprite_j4 _ _ _ _ _ hK1  hok hQ
                    · simp only [if_neg hc] at hQ
                      have hok := hok.2 hc
                      refine ⟨hok.1, ?_⟩
                      have hok := hok.2
                      refine ⟨hok.1, ?_⟩
                      have hok := hok.2
                      refine ⟨fun hc => ?_, fun hc => ?_⟩
                      · simp only [if_pos hc] at hQ
                        have hok := hok.1 hc
                        exact sp_R_sprite_j3 _ _ _ _ hK1 _ _  hok hQ
                      · simp only [if_neg hc] at hQ
                        have hok := hok.2 hc
                        exact sp_R_sprite_j4 _ _ _ _ _ hK1  hok hQ
                  · simp only [if_pos hc] at hQ
                    have hok := hok.2 hc
                    exact sp_R_sprite_j3 _ _ _ _ hK1 _ _  hok hQ
            · simp only [if_neg hc] at hQ
              have hok := hok.2 hc
              exact sp_R_sprite_j3 _ _ _ _ hK1 _ _  hok hQ
def f_R_sprite_j1_v (M0 : Mem) (a1 : Int32) (a2 : Int32) (x29 : Int32) : Int32 := (f_R_sprite_l1_v M0 a1 a2 x29 41 (0 : Int32) (-1 : Int32) (0 : Int32))
def ok_R_sprite_j1 (M0 : Mem) (a1 : Int32) (a2 : Int32) (x29 : Int32) : Prop := ok_R_sprite_l1 M0 a1 a2 x29 41 (0 : Int32) (-1 : Int32) (0 : Int32)
set_option maxRecDepth 100000 in
set_option maxHeartbeats 4000000 in
theorem sp_R_sprite_j1 (M0 : Mem) (a1 : Int32) (a2 : Int32) (x29 : Int32) (Q : Int32 → Prop) (hok : ok_R_sprite_j1 M0 a1 a2 x29) (hQ : Q (f_R_sprite_j1_v M0 a1 a2 x29)) : wp_R_sprite_j1 M0 a1 a2 x29 Q := by
  unfold wp_R_sprite_j1
  unfold ok_R_sprite_j1 at hok
  unfold f_R_sprite_j1_v at hQ
  exact ⟨_, sp_R_sprite_l1 _ _ _ _ _ _ _ _  hok hQ⟩
def f_R_sprite_v (M0 : Mem) (a1 : Int32) (a2 : Int32) : Int32 := (if ((M0 0 33) &&& (4 : Int32)) ≤ 0 then (f_R_sprite_j1_v M0 a1 a2 (8 : Int32)) else (f_R_sprite_j1_v M0 a1 a2 (16 : Int32)))
def ok_R_sprite (M0 : Mem) (a1 : Int32) (a2 : Int32) : Prop := (((((M0 0 33) &&& (4 : Int32)) ≤ 0) → ok_R_sprite_j1 M0 a1 a2 (8 : Int32)) ∧ ((¬ ((M0 0 33) &&& (4 : Int32)) ≤ 0) → ok_R_sprite_j1 M0 a1 a2 (16 : Int32)))
set_option maxRecDepth 100000 in
set_option maxHeartbeats 4000000 in
theorem sp_R_sprite (M0 : Mem) (a1 : Int32) (a2 : Int32) (Q : Int32 → Prop) (hok : ok_R_sprite M0 a1 a2) (hQ : Q (f_R_sprite_v M0 a1 a2)) : wp_R_sprite M0 a1 a2 Q := by
  unfold wp_R_sprite
  unfold ok_R_sprite at hok
  unfold f_R_sprite_v at hQ
  refine ⟨fun hc => ?_, fun hc => ?_⟩
  · simp only [if_pos hc] at hQ
    have hok := hok.1 hc
    exact sp_R_sprite_j1 _ _ _ _ _ hok hQ
  · simp only [if_neg hc] at hQ
    have hok := hok.2 hc
    exact sp_R_sprite_j1 _ _ _ _ _ hok hQ
def f_R_row_j3_v (x81 : Int32) (x82 : Int32) (M83 : Mem) (K1_v : Int32 → Int32 → Mem → Int32) (x125 : Int32) : Int32 := let M126 : Mem := mst M83 7 x82.toNatClampNeg x125; let x127 : Int32 := (x81 + (M126 7 x82.toNatClampNeg)); let x128 : Int32 := x82 + (1 : Int32); (K1_v x127 x128 M126)
def f_R_row_j3_m (x81 : Int32) (x82 : Int32) (M83 : Mem) (K1_m : Int32 → Int32 → Mem → Mem) (x125 : Int32) : Mem := let M126 : Mem := mst M83 7 x82.toNatClampNeg x125; let x127 : Int32 := (x81 + (M126 7 x82.toNatClampNeg)); let x128 : Int32 := x82 + (1 : Int32); (K1_m x127 x128 M126)
def ok_R_row_j3 (x81 : Int32) (x82 : Int32) (M83 : Mem) (K1_ok : Int32 → Int32 → Mem → Prop) (x125 : Int32) : Prop := vp_in x82 160 ∧ (∀ M126 : Mem, M126 = mst M83 7 x82.toNatClampNeg x125 → vp_in x82 160 ∧ (∀ x127 : Int32, x127 = (x81 + (M126 7 x82.toNatClampNeg)) → ∀ x128 : Int32, x128 = x82 + (1 : Int32) → K1_ok x127 x128 M126))
set_option maxRecDepth 100000 in
set_option maxHeartbeats 4000000 in
theorem sp_R_row_j3 (x81 : Int32) (x82 : Int32) (M83 : Mem) {Q : Int32 → Mem → Prop} (K1 : Int32 → Int32 → Mem → Prop) (K1_v : Int32 → Int32 → Mem → Int32) (K1_m : Int32 → Int32 → Mem → Mem) (K1_ok : Int32 → Int32 → Mem → Prop) (hK1 : ∀ (z0 : Int32) (z1 : Int32) (z2 : Mem), K1_ok z0 z1 z2 → Q (K1_v z0 z1 z2) (K1_m z0 z1 z2) → K1 z0 z1 z2) (x125 : Int32) (hok : ok_R_row_j3 x81 x82 M83 K1_ok x125) (hQ : Q (f_R_row_j3_v x81 x82 M83 K1_v x125) (f_R_row_j3_m x81 x82 M83 K1_m x125)) : wp_R_row_j3 x81 x82 M83 K1 x125 Q := by
  unfold wp_R_row_j3
  unfold ok_R_row_j3 at hok
  unfold f_R_row_j3_v f_R_row_j3_m at hQ
  refine ⟨hok.1, ?_⟩
  have hok := hok.2
  intro M126 h_; subst h_
  have hok := hok _ rfl
  refine ⟨hok.1, ?_⟩
  have hok := hok.2
  intro x127 h_; subst h_
  have hok := hok _ rfl
  intro x128 h_; subst h_
  have hok := hok _ rfl
  exact hK1 _ _ _  hok hQ
def f_R_row_j2_v (x81 : Int32) (x82 : Int32) (M83 : Mem) (K1_v : Int32 → Int32 → Mem → Int32) (x120 : Int32) : Int32 := (if ((M83 0 33) &&& (128 : Int32)) ≤ 0 then (f_R_row_j3_v x81 x82 M83 K1_v (0 : Int32)) else (f_R_row_j3_v x81 x82 M83 K1_v x120))
def f_R_row_j2_m (x81 : Int32) (x82 : Int32) (M83 : Mem) (K1_m : Int32 → Int32 → Mem → Mem) (x120 : Int32) : Mem := (if ((M83 0 33) &&& (128 : Int32)) ≤ 0 then (f_R_row_j3_m x81 x82 M83 K1_m (0 : Int32)) else (f_R_row_j3_m x81 x82 M83 K1_m x120))
def ok_R_row_j2 (x81 : Int32) (x82 : Int32) (M83 : Mem) (K1_ok : Int32 → Int32 → Mem → Prop) (x120 : Int32) : Prop := (((((M83 0 33) &&& (128 : Int32)) ≤ 0) → ok_R_row_j3 x81 x82 M83 K1_ok (0 : Int32)) ∧ ((¬ ((M83 0 33) &&& (128 : Int32)) ≤ 0) → ok_R_row_j3 x81 x82 M83 K1_ok x120))
set_option maxRecDepth 100000 in
set_option maxHeartbeats 4000000 in
theorem sp_R_row_j2 (x81 : Int32) (x82 : Int32) (M83 : Mem) {Q : Int32 → Mem → Prop} (K1 : Int32 → Int32 → Mem → Prop) (K1_v : Int32 → Int32 → Mem → Int32) (K1_m : Int32 → Int32 → Mem → Mem) (K1_ok : Int32 → Int32 → Mem → Prop) (hK1 : ∀ (z0 : Int32) (z1 : Int32) (z2 : Mem), K1_ok z0 z1 z2 → Q (K1_v z0 z1 z2) (K1_m z0 z1 z2) → K1 z0 z1 z2) (x120 : Int32) (hok : ok_R_row_j2 x81 x82 M83 K1_ok x120) (hQ : Q (f_R_row_j2_v x81 x82 M83 K1_v x120) (f_R_row_j2_m x81 x82 M83 K1_m x120)) : wp_R_row_j2 x81 x82 M83 K1 x120 Q := by
  unfold wp_R_row_j2
  unfold ok_R_row_j2 at hok
  unfold f_R_row_j2_v f_R_row_j2_m at hQ
  refine ⟨fun hc => ?_, fun hc => ?_⟩
  · simp only [if_pos hc] at hQ
    have hok := hok.1 hc
    exact sp_R_row_j3 _ _ _ _ _ _ _ hK1 _  hok hQ
  · simp only [if_neg hc] at hQ
    have hok := hok.2 hc
    exact sp_R_row_j3 _ _ _ _ _ _ _ hK1 _  hok hQ
def f_R_row_j6_v (x81 : Int32) (x82 : Int32) (M83 : Mem) (x148 : Int32) (K1_v : Int32 → Int32 → Mem → Int32) (x151 : Int32) : Int32 := let x152 : Int32 := ((x151 >>> (((2 : Int32) * x148) &&& (31 : Int32))) &&& (3 : Int32)); (f_R_row_j2_v x81 x82 M83 K1_v x152)
def f_R_row_j6_m (x81 : Int32) (x82 : Int32) (M83 : Mem) (x148 : Int32) (K1_m : Int32 → Int32 → Mem → Mem) (x151 : Int32) : Mem := let x152 : Int32 := ((x151 >>> (((2 : Int32) * x148) &&& (31 : Int32))) &&& (3 : Int32)); (f_R_row_j2_m x81 x82 M83 K1_m x152)
def ok_R_row_j6 (x81 : Int32) (x82 : Int32) (M83 : Mem) (x148 : Int32) (K1_ok : Int32 → Int32 → Mem → Prop) (x151 : Int32) : Prop := ∀ x152 : Int32, x152 = ((x151 >>> (((2 : Int32) * x148) &&& (31 : Int32))) &&& (3 : Int32)) → ok_R_row_j2 x81 x82 M83 K1_ok x152
set_option maxRecDepth 100000 in
set_option maxHeartbeats 4000000 in
theorem sp_R_row_j6 (x81 : Int32) (x82 : Int32) (M83 : Mem) (x148 : Int32) {Q : Int32 → Mem → Prop} (K1 : Int32 → Int32 → Mem → Prop) (K1_v : Int32 → Int32 → Mem → Int32) (K1_m : Int32 → Int32 → Mem → Mem) (K1_ok : Int32 → Int32 → Mem → Prop) (hK1 : ∀ (z0 : Int32) (z1 : Int32) (z2 : Mem), K1_ok z0 z1 z2 → Q (K1_v z0 z1 z2) (K1_m z0 z1 z2) → K1 z0 z1 z2) (x151 : Int32) (hok : ok_R_row_j6 x81 x82 M83 x148 K1_ok x151) (hQ : Q (f_R_row_j6_v x81 x82 M83 x148 K1_v x151) (f_R_row_j6_m x81 x82 M83 x148 K1_m x151)) : wp_R_row_j6 x81 x82 M83 x148 K1 x151 Q := by
  unfold wp_R_row_j6
  unfold ok_R_row_j6 at hok
  unfold f_R_row_j6_v f_R_row_j6_m at hQ
  intro x152 h_; subst h_
  have hok := hok _ rfl
  exact sp_R_row_j2 _ _ _ _ _ _ _ hK1 _  hok hQ
def f_R_row_j5_v (a1 : Int32) (x81 : Int32) (x82 : Int32) (M83 : Mem) (x85 : Int32) (K1_v : Int32 → Int32 → Mem → Int32) (x147 : Int32) : Int32 := let x148 : Int32 := f_R_number_v M83 x85 (a1 - ((M83 5 x85.toNatClampNeg) - (16 : Int32))) (x82 - ((M83 5 ((x85 + (1 : Int32))).toNatClampNeg) - (8 : Int32))) x147; (if ((M83 5 ((x85 + (3 : Int32))).toNatClampNeg) &&& (16 : Int32)) ≤ 0 then (f_R_row_j6_v x81 x82 M83 x148 K1_v (M83 0 41)) else (f_R_row_j6_v x81 x82 M83 x148 K1_v (M83 0 42)))
def f_R_row_j5_m (a1 : Int32) (x81 : Int32) (x82 : Int32) (M83 : Mem) (x85 : Int32) (K1_m : Int32 → Int32 → Mem → Mem) (x147 : Int32) : Mem := let x148 : Int32 := f_R_number_v M83 x85 (a1 - ((M83 5 x85.toNatClampNeg) - (16 : Int32))) (x82 - ((M83 5 ((x85 + (1 : Int32))).toNatClampNeg) - (8 : Int32))) x147; (if ((M83 5 ((x85 + (3 : Int32))).toNatClampNeg) &&& (16 : Int32)) ≤ 0 then (f_R_row_j6_m x81 x82 M83 x148 K1_m (M83 0 41)) else (f_R_row_j6_m x81 x82 M83 x148 K1_m (M83 0 42)))
def ok_R_row_j5 (a1 : Int32) (x81 : Int32) (x82 : Int32) (M83 : Mem) (x85 : Int32) (K1_ok : Int32 → Int32 → Mem → Prop) (x147 : Int32) : Prop := vp_in x85 160 ∧ (vp_in (x85 + (1 : Int32)) 160 ∧ (ok_R_number M83 x85 (a1 - ((M83 5 x85.toNatClampNeg) - (16 : Int32))) (x82 - ((M83 5 ((x85 + (1 : Int32))).toNatClampNeg) - (8 : Int32))) x147 ∧ (∀ x148 : Int32, x148 = f_R_number_v M83 x85 (a1 - ((M83 5 x85.toNatClampNeg) - (16 : Int32))) (x82 - ((M83 5 ((x85 + (1 : Int32))).toNatClampNeg) - (8 : Int32))) x147 → vp_in (x85 + (3 : Int32)) 160 ∧ ((((((M83 5 ((x85 + (3 : Int32))).toNatClampNeg) &&& (16 : Int32)) ≤ 0) → ok_R_row_j6 x81 x82 M83 x148 K1_ok (M83 0 41)) ∧ ((¬ ((M83 5 ((x85 + (3 : Int32))).toNatClampNeg) &&& (16 : Int32)) ≤ 0) → ok_R_row_j6 x81 x82 M83 x148 K1_ok (M83 0 42)))))))
set_option maxRecDepth 100000 in
set_option maxHeartbeats 4000000 in
theorem sp_R_row_j5 (a1 : Int32) (x81 : Int32) (x82 : Int32) (M83 : Mem) (x85 : Int32) {Q : Int32 → Mem → Prop} (K1 : Int32 → Int32 → Mem → Prop) (K1_v : Int32 → Int32 → Mem → Int32) (K1_m : Int32 → Int32 → Mem → Mem) (K1_ok : Int32 → Int32 → Mem → Prop) (hK1 : ∀ (z0 : Int32) (z1 : Int32) (z2 : Mem), K1_ok z0 z1 z2 → Q (K1_v z0 z1 z2) (K1_m z0 z1 z2) → K1 z0 z1 z2) (x147 : Int32) (hok : ok_R_row_j5 a1 x81 x82 M83 x85 K1_ok x147) (hQ : Q (f_R_row_j5_v a1 x81 x82 M83 x85 K1_v x147) (f_R_row_j5_m a1 x81 x82 M83 x85 K1_m x147)) : wp_R_row_j5 a1 x81 x82 M83 x85 K1 x147 Q := by
  unfold wp_R_row_j5
  unfold ok_R_row_j5 at hok
  unfold f_R_row_j5_v f_R_row_j5_m at hQ
  refine ⟨hok.1, ?_⟩
  have hok := hok.2
  refine ⟨hok.1, ?_⟩
  have hok := hok.2
  refine sp_R_number _ _ _ _ _ _ hok.1 ?_
  have hok := hok.2 _ rfl
  refine ⟨hok.1, ?_⟩
  have hok := hok.2
  refine ⟨fun hc => ?_, fun hc => ?_⟩
  · simp only [if_pos hc] at hQ
    have hok := hok.1 hc
    exact sp_R_row_j6 _ _ _ _ _ _ _ _ hK1 _  hok hQ
  · simp only [if_neg hc] at hQ
    have hok := hok.2 hc
    exact sp_R_row_j6 _ _ _ _ _ _ _ _ hK1 _  hok hQ
def f_R_row_j4_v (a1 : Int32) (x81 : Int32) (x82 : Int32) (M83 : Mem) (x85 : Int32) (K1_v : Int32 → Int32 → Mem → Int32) : Int32 := (if ((M83 0 33) &&& (4 : Int32)) ≤ 0 then (f_R_row_j5_v a1 x81 x82 M83 x85 K1_v (8 : Int32)) else (f_R_row_j5_v a1 x81 x82 M83 x85 K1_v (16 : Int32)))
def f_R_row_j4_m (a1 : Int32) (x81 : Int32) (x82 : Int32) (M83 : Mem) (x85 : Int32) (K1_m : Int32 → Int32 → Mem → Mem) : Mem := (if ((M83 0 33) &&& (4 : Int32)) ≤ 0 then (f_R_row_j5_m a1 x81 x82 M83 x85 K1_m (8 : Int32)) else (f_R_row_j5_m a1 x81 x82 M83 x85 K1_m (16 : Int32)))
def ok_R_row_j4 (a1 : Int32) (x81 : Int32) (x82 : Int32) (M83 : Mem) (x85 : Int32) (K1_ok : Int32 → Int32 → Mem → Prop) : Prop := (((((M83 0 33) &&& (4 : Int32)) ≤ 0) → ok_R_row_j5 a1 x81 x82 M83 x85 K1_ok (8 : Int32)) ∧ ((¬ ((M83 0 33) &&& (4 : Int32)) ≤ 0) → ok_R_row_j5 a1 x81 x82 M83 x85 K1_ok (16 : Int32)))
set_option maxRecDepth 100000 in
set_option maxHeartbeats 4000000 in
theorem sp_R_row_j4 (a1 : Int32) (x81 : Int32) (x82 : Int32) (M83 : Mem) (x85 : Int32) {Q : Int32 → Mem → Prop} (K1 : Int32 → Int32 → Mem → Prop) (K1_v : Int32 → Int32 → Mem → Int32) (K1_m : Int32 → Int32 → Mem → Mem) (K1_ok : Int32 → Int32 → Mem → Prop) (hK1 : ∀ (z0 : Int32) (z1 : Int32) (z2 : Mem), K1_ok z0 z1 z2 → Q (K1_v z0 z1 z2) (K1_m z0 z1 z2) → K1 z0 z1 z2) (hok : ok_R_row_j4 a1 x81 x82 M83 x85 K1_ok) (hQ : Q (f_R_row_j4_v a1 x81 x82 M83 x85 K1_v) (f_R_row_j4_m a1 x81 x82 M83 x85 K1_m)) : wp_R_row_j4 a1 x81 x82 M83 x85 K1 Q := by
  unfold wp_R_row_j4
  unfold ok_R_row_j4 at hok
  unfold f_R_row_j4_v f_R_row_j4_m at hQ
  refine ⟨fun hc => ?_, fun hc => ?_⟩
  · simp only [if_pos hc] at hQ
    have hok := hok.1 hc
    exact sp_R_row_j5 _ _ _ _ _ _ _ _ _ hK1 _  hok hQ
  · simp only [if_neg hc] at hQ
    have hok := hok.2 hc
    exact sp_R_row_j5 _ _ _ _ _ _ _ _ _ hK1 _  hok hQ
def f_R_row_l1_v (a1 : Int32) (n : Nat) : Int32 → Int32 → Mem → Int32 := Nat.rec (motive := fun _ => Int32 → Int32 → Mem → Int32) (fun _ _ _ => 0) (fun _ K1_v x81 x82 M83 => (if (160 : Int32) ≤ x82 then x81 else let x84 : Int32 := f_R_background_v M83 x82 a1; let x85 : Int32 := f_R_sprite_v M83 x82 a1; let x86 : Int32 := (((M83 0 40) >>> (((2 : Int32) * x84) &&& (31 : Int32))) &&& (3 : Int32)); (if x85 < 0 then (f_R_row_j2_v x81 x82 M83 K1_v x86) else (if ((M83 5 ((x85 + (3 : Int32))).toNatClampNeg) &&& (128 : Int32)) = 0 then (f_R_row_j4_v a1 x81 x82 M83 x85 K1_v) else (if x84 = 0 then (f_R_row_j4_v a1 x81 x82 M83 x85 K1_v) else (f_R_row_j2_v x81 x82 M83 K1_v x86)))))) n
theorem f_R_row_l1_v_s (a1 : Int32) (n : Nat) (x81 : Int32) (x82 : Int32) (M83 : Mem) : f_R_row_l1_v a1 (n + 1) x81 x82 M83 = (let K1_v : Int32 → Int32 → Mem → Int32 := f_R_row_l1_v a1 n; (if (160 : Int32) ≤ x82 then x81 else let x84 : Int32 := f_R_background_v M83 x82 a1; let x85 : Int32 := f_R_sprite_v M83 x82 a1; let x86 : Int32 := (((M83 0 40) >>> (((2 : Int32) * x84) &&& (31 : Int32))) &&& (3 : Int32)); (if x85 < 0 then (f_R_row_j2_v x81 x82 M83 K1_v x86) else (if ((M83 5 ((x85 + (3 : Int32))).toNatClampNeg) &&& (128 : Int32)) = 0 then (f_R_row_j4_v a1 x81 x82 M83 x85 K1_v) else (if x84 = 0 then (f_R_row_j4_v a1 x81 x82 M83 x85 K1_v) else (f_R_row_j2_v x81 x82 M83 K1_v x86)))))) := rfl
def f_R_row_l1_m (a1 : Int32) (n : Nat) : Int32 → Int32 → Mem → Mem := Nat.rec (motive := fun _ => Int32 → Int32 → Mem → Mem) (fun _ _ _ => (fun _ _ => 0)) (fun _ K1_m x81 x82 M83 => (if (160 : Int32) ≤ x82 then M83 else let x84 : Int32 := f_R_background_v M83 x82 a1; let x85 : Int32 := f_R_sprite_v M83 x82 a1; let x86 : Int32 := (((M83 0 40) >>> (((2 : Int32) * x84) &&& (31 : Int32))) &&& (3 : Int32)); (if x85 < 0 then (f_R_row_j2_m x81 x82 M83 K1_m x86) else (if ((M83 5 ((x85 + (3 : Int32))).toNatClampNeg) &&& (128 : Int32)) = 0 then (f_R_row_j4_m a1 x81 x82 M83 x85 K1_m) else (if x84 = 0 then (f_R_row_j4_m a1 x81 x82 M83 x85 K1_m) else (f_R_row_j2_m x81 x82 M83 K1_m x86)))))) n
theorem f_R_row_l1_m_s (a1 : Int32) (n : Nat) (x81 : Int32) (x82 : Int32) (M83 : Mem) : f_R_row_l1_m a1 (n + 1) x81 x82 M83 = (let K1_m : Int32 → Int32 → Mem → Mem := f_R_row_l1_m a1 n; (if (160 : Int32) ≤ x82 then M83 else let x84 : Int32 := f_R_background_v M83 x82 a1; let x85 : Int32 := f_R_sprite_v M83 x82 a1; let x86 : Int32 := (((M83 0 40) >>> (((2 : Int32) * x84) &&& (31 : Int32))) &&& (3 : Int32)); (if x85 < 0 then (f_R_row_j2_m x81 x82 M83 K1_m x86) else (if ((M83 5 ((x85 + (3 : Int32))).toNatClampNeg) &&& (128 : Int32)) = 0 then (f_R_row_j4_m a1 x81 x82 M83 x85 K1_m) else (if x84 = 0 then (f_R_row_j4_m a1 x81 x82 M83 x85 K1_m) else (f_R_row_j2_m x81 x82 M83 K1_m x86)))))) := rfl
def ok_R_row_l1 (a1 : Int32) (n : Nat) : Int32 → Int32 → Mem → Prop := Nat.rec (motive := fun _ => Int32 → Int32 → Mem → Prop) (fun _ _ _ => False) (fun _ K1_ok x81 x82 M83 => ((((160 : Int32) ≤ x82) → True) ∧ ((¬ (160 : Int32) ≤ x82) → ok_R_background M83 x82 a1 ∧ (∀ x84 : Int32, x84 = f_R_background_v M83 x82 a1 → ok_R_sprite M83 x82 a1 ∧ (∀ x85 : Int32, x85 = f_R_sprite_v M83 x82 a1 → ∀ x86 : Int32, x86 = (((M83 0 40) >>> (((2 : Int32) * x84) &&& (31 : Int32))) &&& (3 : Int32)) → (((x85 < 0) → ok_R_row_j2 x81 x82 M83 K1_ok x86) ∧ ((¬ x85 < 0) → vp_in (x85 + (3 : Int32)) 160 ∧ ((((((M83 5 ((x85 + (3 : Int32))).toNatClampNeg) &&& (128 : Int32)) = 0) → ok_R_row_j4 a1 x81 x82 M83 x85 K1_ok) ∧ ((¬ ((M83 5 ((x85 + (3 : Int32))).toNatClampNeg) &&& (128 : Int32)) = 0) → (((¬ x84 = 0) → ok_R_row_j2 x81 x82 M83 K1_ok x86) ∧ ((x84 = 0) → ok_R_row_j4 a1 x81 x82 M83 x85 K1_ok)))))))))))) n
set_option maxRecDepth 100000 in
set_option maxHeartbeats 4000000 in
theorem sp_R_row_l1 (a1 : Int32) {Q : Int32 → Mem → Prop} : ∀ (n : Nat) (x81 : Int32) (x82 : Int32) (M83 : Mem), ok_R_row_l1 a1 n x81 x82 M83 → Q (f_R_row_l1_v a1 n x81 x82 M83) (f_R_row_l1_m a1 n x81 x82 M83) → wp_R_row_l1 a1 Q n x81 x82 M83 := by
  intro n
  induction n with
  | zero => intro x81 x82 M83 hok; exact False.elim hok
  | succ n ih =>
    intro x81 x82 M83 hok hQ
    have hK1 := ih
    rw [f_R_row_l1_v_s, f_R_row_l1_m_s] at hQ
    refine ⟨fun hc => ?_, fun hc => ?_⟩
    · simp only [if_pos hc] at hQ
      exact hQ
    · simp only [if_neg hc] at hQ
      have hok := hok.2 hc
      refine sp_R_background _ _ _ _ hok.1 ?_
      have hok := hok.2 _ rfl
      refine sp_R_sprite _ _ _ _ hok.1 ?_
      have hok := hok.2 _ rfl
      intro x86 h_; subst h_
      have hok := hok _ rfl
      refine ⟨fun hc => ?_, fun hc => ?_⟩
      · simp only [if_pos hc] at hQ
        have hok := hok.1 hc
        exact sp_R_row_j2 _ _ _ _ _ _ _ hK1 _  hok hQ
      · simp only [if_neg hc] at hQ
        have hok := hok.2 hc
        refine ⟨hok.1, ?_⟩
        have hok := hok.2
        refine ⟨fun hc => ?_, fun hc => ?_⟩
        · simp only [if_pos hc] at hQ
          have hok := hok.1 hc
          exact sp_R_row_j4 _ _ _ _ _ _ _ _ _ hK1  hok hQ
        · simp only [if_neg hc] at hQ
          have hok := hok.2 hc
          refine ⟨fun hc => ?_, fun hc => ?_⟩
          · simp only [if_neg hc] at hQ
            have hok := hok.1 hc
            exact sp_R_row_j2 _ _ _ _ _ _ _ hK1 _  hok hQ
          · simp only [if_pos hc] at hQ
            have hok := hok.2 hc
            exact sp_R_row_j4 _ _ _ _ _ _ _ _ _ hK1  hok hQ
def f_R_row_j1_v (a1 : Int32) (M1 : Mem) (x78 : Int32) : Int32 := let x79 : Int32 := f_R_fails_v M1 x78 (1 : Int32); let M80 : Mem := f_R_fails_m M1 x78 (1 : Int32); (if x79 = 0 then (f_R_row_l1_v a1 161 (0 : Int32) (0 : Int32) M80) else (0 : Int32))
def f_R_row_j1_m (a1 : Int32) (M1 : Mem) (x78 : Int32) : Mem := let x79 : Int32 := f_R_fails_v M1 x78 (1 : Int32); let M80 : Mem := f_R_fails_m M1 x78 (1 : Int32); (if x79 = 0 then (f_R_row_l1_m a1 161 (0 : Int32) (0 : Int32) M80) else M80)
def ok_R_row_j1 (a1 : Int32) (M1 : Mem) (x78 : Int32) : Prop := ok_R_fails M1 x78 (1 : Int32) ∧ (∀ x79 : Int32, x79 = f_R_fails_v M1 x78 (1 : Int32) → ∀ M80 : Mem, M80 = f_R_fails_m M1 x78 (1 : Int32) → (((x79 = 0) → ok_R_row_l1 a1 161 (0 : Int32) (0 : Int32) M80) ∧ ((¬ x79 = 0) → True)))
set_option maxRecDepth 100000 in
set_option maxHeartbeats 4000000 in
theorem sp_R_row_j1 (a1 : Int32) (M1 : Mem) (x78 : Int32) (Q : Int32 → Mem → Prop) (hok : ok_R_row_j1 a1 M1 x78) (hQ : Q (f_R_row_j1_v a1 M1 x78) (f_R_row_j1_m a1 M1 x78)) : wp_R_row_j1 a1 M1 x78 Q := by
  unfold wp_R_row_j1
  unfold ok_R_row_j1 at hok
  unfold f_R_row_j1_v f_R_row_j1_m at hQ
  refine sp_R_fails _ _ _ _ hok.1 ?_
  have hok := hok.2 _ rfl _ rfl
  refine ⟨fun hc => ?_, fun hc => ?_⟩
  · simp only [if_pos hc] at hQ
    have hok := hok.1 hc
    exact ⟨_, sp_R_row_l1 _ _ _ _ _  hok hQ⟩
  · simp only [if_neg hc] at hQ
    exact hQ
def f_R_row_v (M0 : Mem) (a1 : Int32) : Int32 := let M1 : Mem := mst M0 0 0 (0 : Int32); let x2 : Int32 := f_R_in_v M1 a1 (0 : Int32) (143 : Int32); (if x2 = 0 then (f_R_row_j1_v a1 M1 (1 : Int32)) else (f_R_row_j1_v a1 M1 (0 : Int32)))
def f_R_row_m (M0 : Mem) (a1 : Int32) : Mem := let M1 : Mem := mst M0 0 0 (0 : Int32); let x2 : Int32 := f_R_in_v M1 a1 (0 : Int32) (143 : Int32); (if x2 = 0 then (f_R_row_j1_m a1 M1 (1 : Int32)) else (f_R_row_j1_m a1 M1 (0 : Int32)))
def ok_R_row (M0 : Mem) (a1 : Int32) : Prop := ∀ M1 : Mem, M1 = mst M0 0 0 (0 : Int32) → ok_R_in M1 a1 (0 : Int32) (143 : Int32) ∧ (∀ x2 : Int32, x2 = f_R_in_v M1 a1 (0 : Int32) (143 : Int32) → (((¬ x2 = 0) → ok_R_row_j1 a1 M1 (0 : Int32)) ∧ ((x2 = 0) → ok_R_row_j1 a1 M1 (1 : Int32))))
set_option maxRecDepth 100000 in
set_option maxHeartbeats 4000000 in
theorem sp_R_row (M0 : Mem) (a1 : Int32) (Q : Int32 → Mem → Prop) (hok : ok_R_row M0 a1) (hQ : Q (f_R_row_v M0 a1) (f_R_row_m M0 a1)) : wp_R_row M0 a1 Q := by
  unfold wp_R_row
  unfold ok_R_row at hok
  unfold f_R_row_v f_R_row_m at hQ
  intro M1 h_; subst h_
  have hok := hok _ rfl
  refine sp_R_in _ _ _ _ _ hok.1 ?_
  have hok := hok.2 _ rfl
  refine ⟨fun hc => ?_, fun hc => ?_⟩
  · simp only [if_neg hc] at hQ
    have hok := hok.1 hc
    exact sp_R_row_j1 _ _ _ _ hok hQ
  · simp only [if_pos hc] at hQ
    have hok := hok.2 hc
    exact sp_R_row_j1 _ _ _ _ hok hQ
