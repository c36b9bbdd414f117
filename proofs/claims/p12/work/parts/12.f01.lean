def f_Q_passHalted_m (M0 : Mem) : Mem := let M1 : Mem := mst M0 5 0 ((M0 5 0) + (1 : Int32)); let M2 : Mem := f_P_pass_m M1 (1 : Int32); M2
def ok_Q_passHalted (M0 : Mem) : Prop := ∀ M1 : Mem, M1 = mst M0 5 0 ((M0 5 0) + (1 : Int32)) → ok_P_pass M1 (1 : Int32)
set_option maxRecDepth 100000 in
set_option maxHeartbeats 4000000 in
theorem sp_Q_passHalted (M0 : Mem) (Q : Mem → Prop) (hok : ok_Q_passHalted M0) (hQ : Q (f_Q_passHalted_m M0)) : wp_Q_passHalted M0 Q := by
  unfold wp_Q_passHalted
  unfold ok_Q_passHalted at hok
  unfold f_Q_passHalted_m at hQ
  intro M1 h_; subst h_
  have hok := hok _ rfl
  refine sp_P_pass _ _ _ hok ?_
  exact hQ
def f_Q_fetch_v (M0 : Mem) : Int32 := let x1 : Int32 := f_Y_load_v M0 (M0 5 8); x1
def f_Q_fetch_m (M0 : Mem) : Mem := let M2 : Mem := mst M0 5 8 (((M0 5 8) + (1 : Int32)) &&& (65535 : Int32)); let M3 : Mem := mst M2 5 10 ((M2 5 10) + (1 : Int32)); M3
def ok_Q_fetch (M0 : Mem) : Prop := ok_Y_load M0 (M0 5 8)
set_option maxRecDepth 100000 in
set_option maxHeartbeats 4000000 in
theorem sp_Q_fetch (M0 : Mem) (Q : Int32 → Mem → Prop) (hok : ok_Q_fetch M0) (hQ : Q (f_Q_fetch_v M0) (f_Q_fetch_m M0)) : wp_Q_fetch M0 Q := by
  unfold wp_Q_fetch
  unfold ok_Q_fetch at hok
  unfold f_Q_fetch_v f_Q_fetch_m at hQ
  refine sp_Y_load _ _ _ hok ?_
  intro M2 h_; subst h_
  intro M3 h_; subst h_
  exact hQ
def f_Q_fetchWord_v (M0 : Mem) : Int32 := let x1 : Int32 := f_Q_fetch_v M0; let M2 : Mem := f_Q_fetch_m M0; let x3 : Int32 := f_Q_fetch_v M2; ((x3 <<< ((8 : Int32) &&& (31 : Int32))) ||| x1)
def f_Q_fetchWord_m (M0 : Mem) : Mem := let M2 : Mem := f_Q_fetch_m M0; let M4 : Mem := f_Q_fetch_m M2; M4
def ok_Q_fetchWord (M0 : Mem) : Prop := ok_Q_fetch M0 ∧ (∀ x1 : Int32, x1 = f_Q_fetch_v M0 → ∀ M2 : Mem, M2 = f_Q_fetch_m M0 → ok_Q_fetch M2)
set_option maxRecDepth 100000 in
set_option maxHeartbeats 4000000 in
theorem sp_Q_fetchWord (M0 : Mem) (Q : Int32 → Mem → Prop) (hok : ok_Q_fetchWord M0) (hQ : Q (f_Q_fetchWord_v M0) (f_Q_fetchWord_m M0)) : wp_Q_fetchWord M0 Q := by
  unfold wp_Q_fetchWord
  unfold ok_Q_fetchWord at hok
  unfold f_Q_fetchWord_v f_Q_fetchWord_m at hQ
  refine sp_Q_fetch _ _ hok.1 ?_
  have hok := hok.2 _ rfl _ rfl
  refine sp_Q_fetch _ _ hok ?_
  exact hQ
def f_Q_storeStackPointer_m (M0 : Mem) (a1 : Int32) : Mem := let M1 : Mem := f_Y_store_m M0 a1 ((M0 5 7) &&& (255 : Int32)); let M2 : Mem := f_Y_store_m M1 ((a1 + (1 : Int32)) &&& (65535 : Int32)) ((M1 5 7) >>> ((8 : Int32) &&& (31 : Int32))); let M3 : Mem := mst M2 5 10 ((M2 5 10) + (2 : Int32)); M3
def ok_Q_storeStackPointer (M0 : Mem) (a1 : Int32) : Prop := ok_Y_store M0 a1 ((M0 5 7) &&& (255 : Int32)) ∧ (∀ M1 : Mem, M1 = f_Y_store_m M0 a1 ((M0 5 7) &&& (255 : Int32)) → ok_Y_store M1 ((a1 + (1 : Int32)) &&& (65535 : Int32)) ((M1 5 7) >>> ((8 : Int32) &&& (31 : Int32))))
set_option maxRecDepth 100000 in
set_option maxHeartbeats 4000000 in
theorem sp_Q_storeStackPointer (M0 : Mem) (a1 : Int32) (Q : Mem → Prop) (hok : ok_Q_storeStackPointer M0 a1) (hQ : Q (f_Q_storeStackPointer_m M0 a1)) : wp_Q_storeStackPointer M0 a1 Q := by
  unfold wp_Q_storeStackPointer
  unfold ok_Q_storeStackPointer at hok
  unfold f_Q_storeStackPointer_m at hQ
  refine sp_Y_store _ _ _ _ hok.1 ?_
  have hok := hok.2 _ rfl
  refine sp_Y_store _ _ _ _ hok ?_
  intro M3 h_; subst h_
  exact hQ
def f_Q_holds_j4_v (x30 : Int32) : Int32 := x30
def ok_Q_holds_j4 (x30 : Int32) : Prop := isB x30
set_option maxRecDepth 100000 in
set_option maxHeartbeats 4000000 in
theorem sp_Q_holds_j4 (x30 : Int32) (Q : Int32 → Prop) (hok : ok_Q_holds_j4 x30) (hQ : Q (f_Q_holds_j4_v x30)) : wp_Q_holds_j4 x30 Q := by
  unfold wp_Q_holds_j4
  unfold ok_Q_holds_j4 at hok
  unfold f_Q_holds_j4_v at hQ
  refine ⟨hok, ?_⟩
  exact hQ
def f_Q_holds_j3_v (x24 : Int32) (x28 : Int32) : Int32 := (if x24 = x28 then (f_Q_holds_j4_v (1 : Int32)) else (f_Q_holds_j4_v (0 : Int32)))
def ok_Q_holds_j3 (x24 : Int32) (x28 : Int32) : Prop := (((¬ x24 = x28) → ok_Q_holds_j4 (0 : Int32)) ∧ ((x24 = x28) → ok_Q_holds_j4 (1 : Int32)))
set_option maxRecDepth 100000 in
set_option maxHeartbeats 4000000 in
theorem sp_Q_holds_j3 (x24 : Int32) (x28 : Int32) (Q : Int32 → Prop) (hok : ok_Q_holds_j3 x24 x28) (hQ : Q (f_Q_holds_j3_v x24 x28)) : wp_Q_holds_j3 x24 x28 Q := by
  unfold wp_Q_holds_j3
  unfold ok_Q_holds_j3 at hok
  unfold f_Q_holds_j3_v at hQ
  refine ⟨fun hc => ?_, fun hc => ?_⟩
  · simp only [if_neg hc] at hQ
    have hok := hok.1 hc
    exact sp_Q_holds_j4 _ _ hok hQ
  · simp only [if_pos hc] at hQ
    have hok := hok.2 hc
    exact sp_Q_holds_j4 _ _ hok hQ
def f_Q_holds_j2_v (a1 : Int32) (x24 : Int32) : Int32 := (if (a1 &&& (1 : Int32)) = 0 then (f_Q_holds_j3_v x24 (0 : Int32)) else (f_Q_holds_j3_v x24 (1 : Int32)))
def ok_Q_holds_j2 (a1 : Int32) (x24 : Int32) : Prop := ((((a1 &&& (1 : Int32)) = 0) → ok_Q_holds_j3 x24 (0 : Int32)) ∧ ((¬ (a1 &&& (1 : Int32)) = 0) → ok_Q_holds_j3 x24 (1 : Int32)))
set_option maxRecDepth 100000 in
set_option maxHeartbeats 4000000 in
theorem sp_Q_holds_j2 (a1 : Int32) (x24 : Int32) (Q : Int32 → Prop) (hok : ok_Q_holds_j2 a1 x24) (hQ : Q (f_Q_holds_j2_v a1 x24)) : wp_Q_holds_j2 a1 x24 Q := by
  unfold wp_Q_holds_j2
  unfold ok_Q_holds_j2 at hok
  unfold f_Q_holds_j2_v at hQ
  refine ⟨fun hc => ?_, fun hc => ?_⟩
  · simp only [if_pos hc] at hQ
    have hok := hok.1 hc
    exact sp_Q_holds_j3 _ _ _ hok hQ
  · simp only [if_neg hc] at hQ
    have hok := hok.2 hc
    exact sp_Q_holds_j3 _ _ _ hok hQ
def f_Q_holds_j1_v (M0 : Mem) (a1 : Int32) (x16 : Int32) : Int32 := (if ((M0 17 6) &&& x16) = 0 then (f_Q_holds_j2_v a1 (0 : Int32)) else (f_Q_holds_j2_v a1 (1 : Int32)))
def ok_Q_holds_j1 (M0 : Mem) (a1 : Int32) (x16 : Int32) : Prop := (((((M0 17 6) &&& x16) = 0) → ok_Q_holds_j2 a1 (0 : Int32)) ∧ ((¬ ((M0 17 6) &&& x16) = 0) → ok_Q_holds_j2 a1 (1 : Int32)))
set_option maxRecDepth 100000 in
set_option maxHeartbeats 4000000 in
theorem sp_Q_holds_j1 (M0 : Mem) (a1 : Int32) (x16 : Int32) (Q : Int32 → Prop) (hok : ok_Q_holds_j1 M0 a1 x16) (hQ : Q (f_Q_holds_j1_v M0 a1 x16)) : wp_Q_holds_j1 M0 a1 x16 Q := by
  unfold wp_Q_holds_j1
  unfold ok_Q_holds_j1 at hok
  unfold f_Q_holds_j1_v at hQ
  refine ⟨fun hc => ?_, fun hc => ?_⟩
  · simp only [if_pos hc] at hQ
    have hok := hok.1 hc
    exact sp_Q_holds_j2 _ _ _ hok hQ
  · simp only [if_neg hc] at hQ
    have hok := hok.2 hc
    exact sp_Q_holds_j2 _ _ _ hok hQ
def f_Q_holds_v (M0 : Mem) (a1 : Int32) : Int32 := (if (2 : Int32) ≤ a1 then (f_Q_holds_j1_v M0 a1 (16 : Int32)) else (f_Q_holds_j1_v M0 a1 (128 : Int32)))
def ok_Q_holds (M0 : Mem) (a1 : Int32) : Prop := ((((2 : Int32) ≤ a1) → ok_Q_holds_j1 M0 a1 (16 : Int32)) ∧ ((¬ (2 : Int32) ≤ a1) → ok_Q_holds_j1 M0 a1 (128 : Int32)))
set_option maxRecDepth 100000 in
set_option maxHeartbeats 4000000 in
theorem sp_Q_holds (M0 : Mem) (a1 : Int32) (Q : Int32 → Prop) (hok : ok_Q_holds M0 a1) (hQ : Q (f_Q_holds_v M0 a1)) : wp_Q_holds M0 a1 Q := by
  unfold wp_Q_holds
  unfold ok_Q_holds at hok
  unfold f_Q_holds_v at hQ
  refine ⟨fun hc => ?_, fun hc => ?_⟩
  · simp only [if_pos hc] at hQ
    have hok := hok.1 hc
    exact sp_Q_holds_j1 _ _ _ _ hok hQ
  · simp only [if_neg hc] at hQ
    have hok := hok.2 hc
    exact sp_Q_holds_j1 _ _ _ _ hok hQ
def f_Q_jump_j1_m (M4 : Mem) : Mem := M4
set_option maxRecDepth 100000 in
set_option maxHeartbeats 4000000 in
theorem sp_Q_jump_j1 (M4 : Mem) (Q : Mem → Prop) (hQ : Q (f_Q_jump_j1_m M4)) : wp_Q_jump_j1 M4 Q := by
  unfold wp_Q_jump_j1
  unfold f_Q_jump_j1_m at hQ
  exact hQ
def f_Q_jump_m (M0 : Mem) (a1 : Int32) (a2 : Int32) : Mem := (if a1 = 0 then (f_Q_jump_j1_m M0) else let M5 : Mem := mst M0 5 8 (a2 &&& (65535 : Int32)); let M6 : Mem := mst M5 5 10 ((M5 5 10) + (1 : Int32)); (f_Q_jump_j1_m M6))
set_option maxRecDepth 100000 in
set_option maxHeartbeats 4000000 in
theorem sp_Q_jump (M0 : Mem) (a1 : Int32) (a2 : Int32) (Q : Mem → Prop) (hQ : Q (f_Q_jump_m M0 a1 a2)) : wp_Q_jump M0 a1 a2 Q := by
  unfold wp_Q_jump
  unfold f_Q_jump_m at hQ
  refine ⟨fun hc => ?_, fun hc => ?_⟩
  · simp only [if_pos hc] at hQ
    exact sp_Q_jump_j1 _ _ hQ
  · simp only [if_neg hc] at hQ
    intro M5 h_; subst h_
    intro M6 h_; subst h_
    exact sp_Q_jump_j1 _ _ hQ
def f_Q_pair_j1_v (x2 : Int32) : Int32 := x2
set_option maxRecDepth 100000 in
set_option maxHeartbeats 4000000 in
theorem sp_Q_pair_j1 (x2 : Int32) (Q : Int32 → Prop) (hQ : Q (f_Q_pair_j1_v x2)) : wp_Q_pair_j1 x2 Q := by
  unfold wp_Q_pair_j1
  unfold f_Q_pair_j1_v at hQ
  exact hQ
def f_Q_pair_v (M0 : Mem) (a1 : Int32) : Int32 := (if a1 = (3 : Int32) then (f_Q_pair_j1_v (M0 5 7)) else (f_Q_pair_j1_v (((M0 17 ((((2 : Int32) * a1) &&& (7 : Int32))).toNatClampNeg) <<< ((8 : Int32) &&& (31 : Int32))) ||| (M0 17 (((((2 : Int32) * a1) + (1 : Int32)) &&& (7 : Int32))).toNatClampNeg))))
def ok_Q_pair (M0 : Mem) (a1 : Int32) : Prop := (((¬ a1 = (3 : Int32)) → vp_in (((2 : Int32) * a1) &&& (7 : Int32)) 8 ∧ (vp_in ((((2 : Int32) * a1) + (1 : Int32)) &&& (7 : Int32)) 8)) ∧ ((a1 = (3 : Int32)) → True))
set_option maxRecDepth 100000 in
set_option maxHeartbeats 4000000 in
theorem sp_Q_pair (M0 : Mem) (a1 : Int32) (Q : Int32 → Prop) (hok : ok_Q_pair M0 a1) (hQ : Q (f_Q_pair_v M0 a1)) : wp_Q_pair M0 a1 Q := by
  unfold wp_Q_pair
  unfold ok_Q_pair at hok
  unfold f_Q_pair_v at hQ
  refine ⟨fun hc => ?_, fun hc => ?_⟩
  · simp only [if_neg hc] at hQ
    have hok := hok.1 hc
    refine ⟨hok.1, ?_⟩
    have hok := hok.2
    refine ⟨hok, ?_⟩
    exact sp_Q_pair_j1 _ _ hQ
  · simp only [if_pos hc] at hQ
    exact sp_Q_pair_j1 _ _ hQ
def f_Q_addToHl_j2_m (M0 : Mem) (a1 : Int32) (x1 : Int32) (x11 : Int32) (x16 : Int32) : Mem := let M17 : Mem := mst M0 17 6 ((((M0 17 6) &&& (128 : Int32)) ||| x11) ||| x16); let M18 : Mem := f_Q_setPair_m M17 (2 : Int32) (x1 + a1); let M19 : Mem := mst M18 5 10 ((M18 5 10) + (1 : Int32)); M19
def ok_Q_addToHl_j2 (M0 : Mem) (a1 : Int32) (x1 : Int32) (x11 : Int32) (x16 : Int32) : Prop := ∀ M17 : Mem, M17 = mst M0 17 6 ((((M0 17 6) &&& (128 : Int32)) ||| x11) ||| x16) → ok_Q_setPair M17 (2 : Int32) (x1 + a1)
set_option maxRecDepth 100000 in
set_option maxHeartbeats 4000000 in
theorem sp_Q_addToHl_j2 (M0 : Mem) (a1 : Int32) (x1 : Int32) (x11 : Int32) (x16 : Int32) (Q : Mem → Prop) (hok : ok_Q_addToHl_j2 M0 a1 x1 x11 x16) (hQ : Q (f_Q_addToHl_j2_m M0 a1 x1 x11 x16)) : wp_Q_addToHl_j2 M0 a1 x1 x11 x16 Q := by
  unfold wp_Q_addToHl_j2
  unfold ok_Q_addToHl_j2 at hok
  unfold f_Q_addToHl_j2_m at hQ
  intro M17 h_; subst h_
  have hok := hok _ rfl
  refine sp_Q_setPair _ _ _ _ hok ?_
  intro M19 h_; subst h_
  exact hQ
def f_Q_addToHl_j1_m (M0 : Mem) (a1 : Int32) (x1 : Int32) (x11 : Int32) : Mem := (if (x1 + a1) ≤ (65535 : Int32) then (f_Q_addToHl_j2_m M0 a1 x1 x11 (0 : Int32)) else (f_Q_addToHl_j2_m M0 a1 x1 x11 (16 : Int32)))
def ok_Q_addToHl_j1 (M0 : Mem) (a1 : Int32) (x1 : Int32) (x11 : Int32) : Prop := ((((x1 + a1) ≤ (65535 : Int32)) → ok_Q_addToHl_j2 M0 a1 x1 x11 (0 : Int32)) ∧ ((¬ (x1 + a1) ≤ (65535 : Int32)) → ok_Q_addToHl_j2 M0 a1 x1 x11 (16 : Int32)))
set_option maxRecDepth 100000 in
set_option maxHeartbeats 4000000 in
theorem sp_Q_addToHl_j1 (M0 : Mem) (a1 : Int32) (x1 : Int32) (x11 : Int32) (Q : Mem → Prop) (hok : ok_Q_addToHl_j1 M0 a1 x1 x11) (hQ : Q (f_Q_addToHl_j1_m M0 a1 x1 x11)) : wp_Q_addToHl_j1 M0 a1 x1 x11 Q := by
  unfold wp_Q_addToHl_j1
  unfold ok_Q_addToHl_j1 at hok
  unfold f_Q_addToHl_j1_m at hQ
  refine ⟨fun hc => ?_, fun hc => ?_⟩
  · simp only [if_pos hc] at hQ
    have hok := hok.1 hc
    exact sp_Q_addToHl_j2 _ _ _ _ _ _ hok hQ
  · simp only [if_neg hc] at hQ
    have hok := hok.2 hc
    exact sp_Q_addToHl_j2 _ _ _ _ _ _ hok hQ
def f_Q_addToHl_m (M0 : Mem) (a1 : Int32) : Mem := let x1 : Int32 := f_Q_pair_v M0 (2 : Int32); (if ((x1 &&& (4095 : Int32)) + (a1 &&& (4095 : Int32))) ≤ (4095 : Int32) then (f_Q_addToHl_j1_m M0 a1 x1 (0 : Int32)) else (f_Q_addToHl_j1_m M0 a1 x1 (32 : Int32)))
def ok_Q_addToHl (M0 : Mem) (a1 : Int32) : Prop := ok_Q_pair M0 (2 : Int32) ∧ (∀ x1 : Int32, x1 = f_Q_pair_v M0 (2 : Int32) → (((((x1 &&& (4095 : Int32)) + (a1 &&& (4095 : Int32))) ≤ (4095 : Int32)) → ok_Q_addToHl_j1 M0 a1 x1 (0 : Int32)) ∧ ((¬ ((x1 &&& (4095 : Int32)) + (a1 &&& (4095 : Int32))) ≤ (4095 : Int32)) → ok_Q_addToHl_j1 M0 a1 x1 (32 : Int32))))
set_option maxRecDepth 100000 in
set_option maxHeartbeats 4000000 in
theorem sp_Q_addToHl (M0 : Mem) (a1 : Int32) (Q : Mem → Prop) (hok : ok_Q_addToHl M0 a1) (hQ : Q (f_Q_addToHl_m M0 a1)) : wp_Q_addToHl M0 a1 Q := by
  unfold wp_Q_addToHl
  unfold ok_Q_addToHl at hok
  unfold f_Q_addToHl_m at hQ
  refine sp_Q_pair _ _ _ hok.1 ?_
  have hok := hok.2 _ rfl
  refine ⟨fun hc => ?_, fun hc => ?_⟩
  · simp only [if_pos hc] at hQ
    have hok := hok.1 hc
    exact sp_Q_addToHl_j1 _ _ _ _ _ hok hQ
  · simp only [if_neg hc] at hQ
    have hok := hok.2 hc
    exact sp_Q_addToHl_j1 _ _ _ _ _ hok hQ
def f_Q_copyA_j1_m (M6 : Mem) : Mem := M6
set_option maxRecDepth 100000 in
set_option maxHeartbeats 4000000 in
theorem sp_Q_copyA_j1 (M6 : Mem) (Q : Mem → Prop) (hQ : Q (f_Q_copyA_j1_m M6)) : wp_Q_copyA_j1 M6 Q := by
  unfold wp_Q_copyA_j1
  unfold f_Q_copyA_j1_m at hQ
  exact hQ
def f_Q_copyA_m (M0 : Mem) (a1 : Int32) (a2 : Int32) : Mem := let M1 : Mem := mst M0 5 10 ((M0 5 10) + (1 : Int32)); (if a2 = 0 then let M7 : Mem := f_Y_store_m M1 a1 (M1 17 7); (f_Q_copyA_j1_m M7) else let x8 : Int32 := f_Y_load_v M1 a1; let M9 : Mem := mst M1 17 7 x8; (f_Q_copyA_j1_m M9))
def ok_Q_copyA (M0 : Mem) (a1 : Int32) (a2 : Int32) : Prop := ∀ M1 : Mem, M1 = mst M0 5 10 ((M0 5 10) + (1 : Int32)) → (((a2 = 0) → ok_Y_store M1 a1 (M1 17 7)) ∧ ((¬ a2 = 0) → ok_Y_load M1 a1))
set_option maxRecDepth 100000 in
set_option maxHeartbeats 4000000 in
theorem sp_Q_copyA (M0 : Mem) (a1 : Int32) (a2 : Int32) (Q : Mem → Prop) (hok : ok_Q_copyA M0 a1 a2) (hQ : Q (f_Q_copyA_m M0 a1 a2)) : wp_Q_copyA M0 a1 a2 Q := by
  unfold wp_Q_copyA
  unfold ok_Q_copyA at hok
  unfold f_Q_copyA_m at hQ
  intro M1 h_; subst h_
  have hok := hok _ rfl
  refine ⟨fun hc => ?_, fun hc => ?_⟩
  · simp only [if_pos hc] at hQ
    have hok := hok.1 hc
    refine sp_Y_store _ _ _ _ hok ?_
    exact sp_Q_copyA_j1 _ _ hQ
  · simp only [if_neg hc] at hQ
    have hok := hok.2 hc
    refine sp_Y_load _ _ _ hok ?_
    intro M9 h_; subst h_
    exact sp_Q_copyA_j1 _ _ hQ
def f_Q_octetAt_v (M0 : Mem) (a1 : Int32) : Int32 := (if a1 = (6 : Int32) then let M1 : Mem := mst M0 5 10 ((M0 5 10) + (1 : Int32)); let x2 : Int32 := f_Q_pair_v M1 (2 : Int32); let x3 : Int32 := f_Y_load_v M1 x2; x3 else (M0 17 ((a1 &&& (7 : Int32))).toNatClampNeg))
def f_Q_octetAt_m (M0 : Mem) (a1 : Int32) : Mem := (if a1 = (6 : Int32) then let M1 : Mem := mst M0 5 10 ((M0 5 10) + (1 : Int32)); M1 else M0)
def ok_Q_octetAt (M0 : Mem) (a1 : Int32) : Prop := (((a1 = (6 : Int32)) → ∀ M1 : Mem, M1 = mst M0 5 10 ((M0 5 10) + (1 : Int32)) → ok_Q_pair M1 (2 : Int32) ∧ (∀ x2 : Int32, x2 = f_Q_pair_v M1 (2 : Int32) → ok_Y_load M1 x2)) ∧ ((¬ a1 = (6 : Int32)) → vp_in (a1 &&& (7 : Int32)) 8))
set_option maxRecDepth 100000 in
set_option maxHeartbeats 4000000 in
theorem sp_Q_octetAt (M0 : Mem) (a1 : Int32) (Q : Int32 → Mem → Prop) (hok : ok_Q_octetAt M0 a1) (hQ : Q (f_Q_octetAt_v M0 a1) (f_Q_octetAt_m M0 a1)) : wp_Q_octetAt M0 a1 Q := by
  unfold wp_Q_octetAt
  unfold ok_Q_octetAt at hok
  unfold f_Q_octetAt_v f_Q_octetAt_m at hQ
  refine ⟨fun hc => ?_, fun hc => ?_⟩
  · simp only [if_pos hc] at hQ
    have hok := hok.1 hc
    intro M1 h_; subst h_
    have hok := hok _ rfl
    refine sp_Q_pair _ _ _ hok.1 ?_
    have hok := hok.2 _ rfl
    refine sp_Y_load _ _ _ hok ?_
    exact hQ
  · simp only [if_neg hc] at hQ
    have hok := hok.2 hc
    refine ⟨hok, ?_⟩
    exact hQ
def f_Q_zero_j1_v (x2 : Int32) : Int32 := x2
set_option maxRecDepth 100000 in
set_option maxHeartbeats 4000000 in
theorem sp_Q_zero_j1 (x2 : Int32) (Q : Int32 → Prop) (hQ : Q (f_Q_zero_j1_v x2)) : wp_Q_zero_j1 x2 Q := by
  unfold wp_Q_zero_j1
  unfold f_Q_zero_j1_v at hQ
  exact hQ
def f_Q_zero_v (M0 : Mem) (a1 : Int32) : Int32 := (if a1 = 0 then (f_Q_zero_j1_v (128 : Int32)) else (f_Q_zero_j1_v (0 : Int32)))
set_option maxRecDepth 100000 in
set_option maxHeartbeats 4000000 in
theorem sp_Q_zero (M0 : Mem) (a1 : Int32) (Q : Int32 → Prop) (hQ : Q (f_Q_zero_v M0 a1)) : wp_Q_zero M0 a1 Q := by
  unfold wp_Q_zero
  unfold f_Q_zero_v at hQ
  refine ⟨fun hc => ?_, fun hc => ?_⟩
  · simp only [if_neg hc] at hQ
    exact sp_Q_zero_j1 _ _ hQ
  · simp only [if_pos hc] at hQ
    exact sp_Q_zero_j1 _ _ hQ
def f_Q_increased_j1_v (M0 : Mem) (x1 : Int32) (x2 : Int32) (x5 : Int32) : Int32 := x1
def f_Q_increased_j1_m (M0 : Mem) (x1 : Int32) (x2 : Int32) (x5 : Int32) : Mem := let M6 : Mem := mst M0 17 6 ((((M0 17 6) &&& (16 : Int32)) ||| x2) ||| x5); M6
set_option maxRecDepth 100000 in
set_option maxHeartbeats 4000000 in
theorem sp_Q_increased_j1 (M0 : Mem) (x1 : Int32) (x2 : Int32) (x5 : Int32) (Q : Int32 → Mem → Prop) (hQ : Q (f_Q_increased_j1_v M0 x1 x2 x5) (f_Q_increased_j1_m M0 x1 x2 x5)) : wp_Q_increased_j1 M0 x1 x2 x5 Q := by
  unfold wp_Q_increased_j1
  unfold f_Q_increased_j1_v f_Q_increased_j1_m at hQ
  intro M6 h_; subst h_
  exact hQ
def f_Q_increased_v (M0 : Mem) (a1 : Int32) : Int32 := let x1 : Int32 := ((a1 + (1 : Int32)) &&& (255 : Int32)); let x2 : Int32 := f_Q_zero_v M0 x1; (if (x1 &&& (15 : Int32)) = 0 then (f_Q_increased_j1_v M0 x1 x2 (32 : Int32)) else (f_Q_increased_j1_v M0 x1 x2 (0 : Int32)))
def f_Q_increased_m (M0 : Mem) (a1 : Int32) : Mem := let x1 : Int32 := ((a1 + (1 : Int32)) &&& (255 : Int32)); let x2 : Int32 := f_Q_zero_v M0 x1; (if (x1 &&& (15 : Int32)) = 0 then (f_Q_increased_j1_m M0 x1 x2 (32 : Int32)) else (f_Q_increased_j1_m M0 x1 x2 (0 : Int32)))
set_option maxRecDepth 100000 in
set_option maxHeartbeats 4000000 in
theorem sp_Q_increased (M0 : Mem) (a1 : Int32) (Q : Int32 → Mem → Prop) (hQ : Q (f_Q_increased_v M0 a1) (f_Q_increased_m M0 a1)) : wp_Q_increased M0 a1 Q := by
  unfold wp_Q_increased
  unfold f_Q_increased_v f_Q_increased_m at hQ
  intro x1 h_; subst h_
  refine sp_Q_zero _ _ _ ?_
  refine ⟨fun hc => ?_, fun hc => ?_⟩
  · simp only [if_neg hc] at hQ
    exact sp_Q_increased_j1 _ _ _ _ _ hQ
  · simp only [if_pos hc] at hQ
    exact sp_Q_increased_j1 _ _ _ _ _ hQ
def f_Q_setOctet_m (M0 : Mem) (a1 : Int32) (a2 : Int32) : Mem := (if a1 = (6 : Int32) then let M1 : Mem := mst M0 5 10 ((M0 5 10) + (1 : Int32)); let x2 : Int32 := f_Q_pair_v M1 (2 : Int32); let M3 : Mem := f_Y_store_m M1 x2 a2; M3 else let M4 : Mem := mst M0 17 ((a1 &&& (7 : Int32))).toNatClampNeg a2; M4)
def ok_Q_setOctet (M0 : Mem) (a1 : Int32) (a2 : Int32) : Prop := (((a1 = (6 : Int32)) → ∀ M1 : Mem, M1 = mst M0 5 10 ((M0 5 10) + (1 : Int32)) → ok_Q_pair M1 (2 : Int32) ∧ (∀ x2 : Int32, x2 = f_Q_pair_v M1 (2 : Int32) → ok_Y_store M1 x2 a2)) ∧ ((¬ a1 = (6 : Int32)) → vp_in (a1 &&& (7 : Int32)) 8))
set_option maxRecDepth 100000 in
set_option maxHeartbeats 4000000 in
theorem sp_Q_setOctet (M0 : Mem) (a1 : Int32) (a2 : Int32) (Q : Mem → Prop) (hok : ok_Q_setOctet M0 a1 a2) (hQ : Q (f_Q_setOctet_m M0 a1 a2)) : wp_Q_setOctet M0 a1 a2 Q := by
  unfold wp_Q_setOctet
  unfold ok_Q_setOctet at hok
  unfold f_Q_setOctet_m at hQ
  refine ⟨fun hc => ?_, fun hc => ?_⟩
  · simp only [if_pos hc] at hQ
    have hok := hok.1 hc
    intro M1 h_; subst h_
    have hok := hok _ rfl
    refine sp_Q_pair _ _ _ hok.1 ?_
    have hok := hok.2 _ rfl
    refine sp_Y_store _ _ _ _ hok ?_
    exact hQ
  · simp only [if_neg hc] at hQ
    have hok := hok.2 hc
    refine ⟨hok, ?_⟩
    intro M4 h_; subst h_
    exact hQ
def f_Q_decreased_j1_v (M0 : Mem) (x1 : Int32) (x2 : Int32) (x5 : Int32) : Int32 := x1
def f_Q_decreased_j1_m (M0 : Mem) (x1 : Int32) (x2 : Int32) (x5 : Int32) : Mem := let M6 : Mem := mst M0 17 6 (((((M0 17 6) &&& (16 : Int32)) ||| (64 : Int32)) ||| x2) ||| x5); M6
set_option maxRecDepth 100000 in
set_option maxHeartbeats 4000000 in
theorem sp_Q_decreased_j1 (M0 : Mem) (x1 : Int32) (x2 : Int32) (x5 : Int32) (Q : Int32 → Mem → Prop) (hQ : Q (f_Q_decreased_j1_v M0 x1 x2 x5) (f_Q_decreased_j1_m M0 x1 x2 x5)) : wp_Q_decreased_j1 M0 x1 x2 x5 Q := by
  unfold wp_Q_decreased_j1
  unfold f_Q_decreased_j1_v f_Q_decreased_j1_m at hQ
  intro M6 h_; subst h_
  exact hQ
def f_Q_decreased_v (M0 : Mem) (a1 : Int32) : Int32 := let x1 : Int32 := ((a1 - (1 : Int32)) &&& (255 : Int32)); let x2 : Int32 := f_Q_zero_v M0 x1; (if (x1 &&& (15 : Int32)) = (15 : Int32) then (f_Q_decreased_j1_v M0 x1 x2 (32 : Int32)) else (f_Q_decreased_j1_v M0 x1 x2 (0 : Int32)))
def f_Q_decreased_m (M0 : Mem) (a1 : Int32) : Mem := let x1 : Int32 := ((a1 - (1 : Int32)) &&& (255 : Int32)); let x2 : Int32 := f_Q_zero_v M0 x1; (if (x1 &&& (15 : Int32)) = (15 : Int32) then (f_Q_decreased_j1_m M0 x1 x2 (32 : Int32)) else (f_Q_decreased_j1_m M0 x1 x2 (0 : Int32)))
set_option maxRecDepth 100000 in
set_option maxHeartbeats 4000000 in
theorem sp_Q_decreased (M0 : Mem) (a1 : Int32) (Q : Int32 → Mem → Prop) (hQ : Q (f_Q_decreased_v M0 a1) (f_Q_decreased_m M0 a1)) : wp_Q_decreased M0 a1 Q := by
  unfold wp_Q_decreased
  unfold f_Q_decreased_v f_Q_decreased_m at hQ
  intro x1 h_; subst h_
  refine sp_Q_zero _ _ _ ?_
  refine ⟨fun hc => ?_, fun hc => ?_⟩
  · simp only [if_neg hc] at hQ
    exact sp_Q_decreased_j1 _ _ _ _ _ hQ
  · simp only [if_pos hc] at hQ
    exact sp_Q_decreased_j1 _ _ _ _ _ hQ
def f_Q_adjustDecimal_j4_m (x2 : Int32) (M291 : Mem) (x292 : Int32) (x295 : Int32) : Mem := let M296 : Mem := mst M291 17 6 ((x292 ||| (x2 &&& (64 : Int32))) ||| x295); M296
set_option maxRecDepth 100000 in
set_option maxHeartbeats 4000000 in
theorem sp_Q_adjustDecimal_j4 (x2 : Int32) (M291 : Mem) (x292 : Int32) (x295 : Int32) (Q : Mem → Prop) (hQ : Q (f_Q_adjustDecimal_j4_m x2 M291 x292 x295)) : wp_Q_adjustDecimal_j4 x2 M291 x292 x295 Q := by
  unfold wp_Q_adjustDecimal_j4
  unfold f_Q_adjustDecimal_j4_m at hQ
  intro M296 h_; subst h_
  exact hQ
def f_Q_adjustDecimal_j3_m (M0 : Mem) (x1 : Int32) (x2 : Int32) (x289 : Int32) (x290 : Int32) : Mem := let M291 : Mem := mst M0 17 7 ((x1 + x290) &&& (255 : Int32)); let x292 : Int32 := f_Q_zero_v M291 (M291 17 7); (if x289 = 0 then (f_Q_adjustDecimal_j4_m x2 M291 x292 (0 : Int32)) else (f_Q_adjustDecimal_j4_m x2 M291 x292 (16 : Int32)))
set_option maxRecDepth 100000 in
set_option maxHeartbeats 4000000 in
theorem sp_Q_adjustDecimal_j3 (M0 : Mem) (x1 : Int32) (x2 : Int32) (x289 : Int32) (x290 : Int32) (Q : Mem → Prop) (hQ : Q (f_Q_adjustDecimal_j3_m M0 x1 x2 x289 x290)) : wp_Q_adjustDecimal_j3 M0 x1 x2 x289 x290 Q := by
  unfold wp_Q_adjustDecimal_j3
  unfold f_Q_adjustDecimal_j3_m at hQ
  intro M291 h_; subst h_
  refine sp_Q_zero _ _ _ ?_
  refine ⟨fun hc => ?_, fun hc => ?_⟩
  · simp only [if_pos hc] at hQ
    exact sp_Q_adjustDecimal_j4 _ _ _ _ _ hQ
  · simp only [if_neg hc] at hQ
    exact sp_Q_adjustDecimal_j4 _ _ _ _ _ hQ
def f_Q_adjustDecimal_j7_m (M0 : Mem) (x1 : Int32) (x2 : Int32) (x308 : Int32) (x314 : Int32) (x317 : Int32) : Mem := let x318 : Int32 := (x314 + x317); (f_Q_adjustDecimal_j3_m M0 x1 x2 x308 x318)
set_option maxRecDepth 100000 in
set_option maxHeartbeats 4000000 in
theorem sp_Q_adjustDecimal_j7 (M0 : Mem) (x1 : Int32) (x2 : Int32) (x308 : Int32) (x314 : Int32) (x317 : Int32) (Q : Mem → Prop) (hQ : Q (f_Q_adjustDecimal_j7_m M0 x1 x2 x308 x314 x317)) : wp_Q_adjustDecimal_j7 M0 x1 x2 x308 x314 x317 Q := by
  unfold wp_Q_adjustDecimal_j7
  unfold f_Q_adjustDecimal_j7_m at hQ
  intro x318 h_; subst h_
  exact sp_Q_adjustDecimal_j3 _ _ _ _ _ _ hQ
def f_Q_adjustDecimal_j8_m (M0 : Mem) (x1 : Int32) (x2 : Int32) (x308 : Int32) (x314 : Int32) : Mem := (f_Q_adjustDecimal_j7_m M0 x1 x2 x308 x314 (6 : Int32))
set_option maxRecDepth 100000 in
set_option maxHeartbeats 4000000 in
theorem sp_Q_adjustDecimal_j8 (M0 : Mem) (x1 : Int32) (x2 : Int32) (x308 : Int32) (x314 : Int32) (Q : Mem → Prop) (hQ : Q (f_Q_adjustDecimal_j8_m M0 x1 x2 x308 x314)) : wp_Q_adjustDecimal_j8 M0 x1 x2 x308 x314 Q := by
  unfold wp_Q_adjustDecimal_j8
  unfold f_Q_adjustDecimal_j8_m at hQ
  exact sp_Q_adjustDecimal_j7 _ _ _ _ _ _ _ hQ
def f_Q_adjustDecimal_j6_m (M0 : Mem) (x1 : Int32) (x2 : Int32) (x248 : Int32) (x308 : Int32) (x314 : Int32) : Mem := (if x248 = 0 then (if (x1 &&& (15 : Int32)) ≤ (9 : Int32) then (f_Q_adjustDecimal_j7_m M0 x1 x2 x308 x314 (0 : Int32)) else (f_Q_adjustDecimal_j8_m M0 x1 x2 x308 x314)) else (f_Q_adjustDecimal_j8_m M0 x1 x2 x308 x314))
set_option maxRecDepth 100000 in
set_option maxHeartbeats 4000000 in
theorem sp_Q_adjustDecimal_j6 (M0 : Mem) (x1 : Int32) (x2 : Int32) (x248 : Int32) (x308 : Int32) (x314 : Int32) (Q : Mem → Prop) (hQ : Q (f_Q_adjustDecimal_j6_m M0 x1 x2 x248 x308 x314)) : wp_Q_adjustDecimal_j6 M0 x1 x2 x248 x308 x314 Q := by
  unfold wp_Q_adjustDecimal_j6
  unfold f_Q_adjustDecimal_j6_m at hQ
  refine ⟨fun hc => ?_, fun hc => ?_⟩
  · simp only [if_neg hc] at hQ
    exact sp_Q_adjustDecimal_j8 _ _ _ _ _ _ hQ
  · simp only [if_pos hc] at hQ
    refine ⟨fun hc => ?_, fun hc => ?_⟩
    · simp only [if_pos hc] at hQ
      exact sp_Q_adjustDecimal_j7 _ _ _ _ _ _ _ hQ
    · simp only [if_neg hc] at hQ
      exact sp_Q_adjustDecimal_j8 _ _ _ _ _ _ hQ
def f_Q_adjustDecimal_j5_m (M0 : Mem) (x1 : Int32) (x2 : Int32) (x248 : Int32) (x308 : Int32) : Mem := (if x308 = 0 then (f_Q_adjustDecimal_j6_m M0 x1 x2 x248 x308 (0 : Int32)) else (f_Q_adjustDecimal_j6_m M0 x1 x2 x248 x308 (96 : Int32)))
set_option maxRecDepth 100000 in
set_option maxHeartbeats 4000000 in
theorem sp_Q_adjustDecimal_j5 (M0 : Mem) (x1 : Int32) (x2 : Int32) (x248 : Int32) (x308 : Int32) (Q : Mem → Prop) (hQ : Q (f_Q_adjustDecimal_j5_m M0 x1 x2 x248 x308)) : wp_Q_adjustDecimal_j5 M0 x1 x2 x248 x308 Q := by
  unfold wp_Q_adjustDecimal_j5
  unfold f_Q_adjustDecimal_j5_m at hQ
  refine ⟨fun hc => ?_, fun hc => ?_⟩
  · simp only [if_pos hc] at hQ
    exact sp_Q_adjustDecimal_j6 _ _ _ _ _ _ _ hQ
  · simp only [if_neg hc] at hQ
    exact sp_Q_adjustDecimal_j6 _ _ _ _ _ _ _ hQ
def f_Q_adjustDecimal_j9_m (M0 : Mem) (x1 : Int32) (x2 : Int32) (x248 : Int32) : Mem := (f_Q_adjustDecimal_j5_m M0 x1 x2 x248 (1 : Int32))
set_option maxRecDepth 100000 in
set_option maxHeartbeats 4000000 in
theorem sp_Q_adjustDecimal_j9 (M0 : Mem) (x1 : Int32) (x2 : Int32) (x248 : Int32) (Q : Mem → Prop) (hQ : Q (f_Q_adjustDecimal_j9_m M0 x1 x2 x248)) : wp_Q_adjustDecimal_j9 M0 x1 x2 x248 Q := by
  unfold wp_Q_adjustDecimal_j9
  unfold f_Q_adjustDecimal_j9_m at hQ
  exact sp_Q_adjustDecimal_j5 _ _ _ _ _ _ hQ
def f_Q_adjustDecimal_j11_m (M0 : Mem) (x1 : Int32) (x2 : Int32) (x166 : Int32) (x324 : Int32) (x327 : Int32) : Mem := let x328 : Int32 := (x324 + x327); (f_Q_adjustDecimal_j3_m M0 x1 x2 x166 x328)
set_option maxRecDepth 100000 in
set_option maxHeartbeats 4000000 in
theorem sp_Q_adjustDecimal_j11 (M0 : Mem) (x1 : Int32) (x2 : Int32) (x166 : Int32) (x324 : Int32) (x327 : Int32) (Q : Mem → Prop) (hQ : Q (f_Q_adjustDecimal_j11_m M0 x1 x2 x166 x324 x327)) : wp_Q_adjustDecimal_j11 M0 x1 x2 x166 x324 x327 Q := by
  unfold wp_Q_adjustDecimal_j11
  unfold f_Q_adjustDecimal_j11_m at hQ
  intro x328 h_; subst h_
  exact sp_Q_adjustDecimal_j3 _ _ _ _ _ _ hQ
def f_Q_adjustDecimal_j10_m (M0 : Mem) (x1 : Int32) (x2 : Int32) (x166 : Int32) (x248 : Int32) (x324 : Int32) : Mem := (if x248 = 0 then (f_Q_adjustDecimal_j11_m M0 x1 x2 x166 x324 (0 : Int32)) else (f_Q_adjustDecimal_j11_m M0 x1 x2 x166 x324 (-6 : Int32)))
set_option maxRecDepth 100000 in
set_option maxHeartbeats 4000000 in
theorem sp_Q_adjustDecimal_j10 (M0 : Mem) (x1 : Int32) (x2 : Int32) (x166 : Int32) (x248 : Int32) (x324 : Int32) (Q : Mem → Prop) (hQ : Q (f_Q_adjustDecimal_j10_m M0 x1 x2 x166 x248 x324)) : wp_Q_adjustDecimal_j10 M0 x1 x2 x166 x248 x324 Q := by
  unfold wp_Q_adjustDecimal_j10
  unfold f_Q_adjustDecimal_j10_m at hQ
  refine ⟨fun hc => ?_, fun hc => ?_⟩
  · simp only [if_pos hc] at hQ
    exact sp_Q_adjustDecimal_j11 _ _ _ _ _ _ _ hQ
  · simp only [if_neg hc] at hQ
    exact sp_Q_adjustDecimal_j11 _ _ _ _ _ _ _ hQ
def f_Q_adjustDecimal_j2_m (M0 : Mem) (x1 : Int32) (x2 : Int32) (x166 : Int32) (x248 : Int32) : Mem := (if (x2 &&& (64 : Int32)) = 0 then (if x166 = 0 then (if x1 ≤ (153 : Int32) then (f_Q_adjustDecimal_j5_m M0 x1 x2 x248 (0 : Int32)) else (f_Q_adjustDecimal_j9_m M0 x1 x2 x248)) else (f_Q_adjustDecimal_j9_m M0 x1 x2 x248)) else (if x166 = 0 then (f_Q_adjustDecimal_j10_m M0 x1 x2 x166 x248 (0 : Int32)) else (f_Q_adjustDecimal_j10_m M0 x1 x2 x166 x248 (-96 : Int32))))
set_option maxRecDepth 100000 in
set_option maxHeartbeats 4000000 in
theorem sp_Q_adjustDecimal_j2 (M0 : Mem) (x1 : Int32) (x2 : Int32) (x166 : Int32) (x248 : Int32) (Q : Mem → Prop) (hQ : Q (f_Q_adjustDecimal_j2_m M0 x1 x2 x166 x248)) : wp_Q_adjustDecimal_j2 M0 x1 x2 x166 x248 Q := by
  unfold wp_Q_adjustDecimal_j2
  unfold f_Q_adjustDecimal_j2_m at hQ
  refine ⟨fun hc => ?_, fun hc => ?_⟩
  · simp only [if_pos hc] at hQ
    refine ⟨fun hc => ?_, fun hc => ?_⟩
    · simp only [if_neg hc] at hQ
      exact sp_Q_adjustDecimal_j9 _ _ _ _ _ hQ
    · simp only [if_pos hc] at hQ
      refine ⟨fun hc => ?_, fun hc => ?_⟩
      · simp only [if_pos hc] at hQ
        exact sp_Q_adjustDecimal_j5 _ _ _ _ _ _ hQ
      · simp only [if_neg hc] at hQ
        exact sp_Q_adjustDecimal_j9 _ _ _ _ _ hQ
  · simp only [if_neg hc] at hQ
    refine ⟨fun hc => ?_, fun hc => ?_⟩
    · simp only [if_pos hc] at hQ
      exact sp_Q_adjustDecimal_j10 _ _ _ _ _ _ _ hQ
    · simp only [if_neg hc] at hQ
      exact sp_Q_adjustDecimal_j10 _ _ _ _ _ _ _ hQ
def f_Q_adjustDecimal_j1_m (M0 : Mem) (x1 : Int32) (x2 : Int32) (x166 : Int32) : Mem := (if (x2 &&& (32 : Int32)) = 0 then (f_Q_adjustDecimal_j2_m M0 x1 x2 x166 (0 : Int32)) else (f_Q_adjustDecimal_j2_m M0 x1 x2 x166 (1 : Int32)))
set_option maxRecDepth 100000 in
set_option maxHeartbeats 4000000 in
theorem sp_Q_adjustDecimal_j1 (M0 : Mem) (x1 : Int32) (x2 : Int32) (x166 : Int32) (Q : Mem → Prop) (hQ : Q (f_Q_adjustDecimal_j1_m M0 x1 x2 x166)) : wp_Q_adjustDecimal_j1 M0 x1 x2 x166 Q := by
  unfold wp_Q_adjustDecimal_j1
  unfold f_Q_adjustDecimal_j1_m at hQ
  refine ⟨fun hc => ?_, fun hc => ?_⟩
  · simp only [if_pos hc] at hQ
    exact sp_Q_adjustDecimal_j2 _ _ _ _ _ _ hQ
  · simp only [if_neg hc] at hQ
    exact sp_Q_adjustDecimal_j2 _ _ _ _ _ _ hQ
def f_Q_adjustDecimal_m (M0 : Mem) : Mem := let x1 : Int32 := (M0 17 7); let x2 : Int32 := (M0 17 6); (if (x2 &&& (16 : Int32)) = 0 then (f_Q_adjustDecimal_j1_m M0 x1 x2 (0 : Int32)) else (f_Q_adjustDecimal_j1_m M0 x1 x2 (1 : Int32)))
set_option maxRecDepth 100000 in
set_option maxHeartbeats 4000000 in
theorem sp_Q_adjustDecimal (M0 : Mem) (Q : Mem → Prop) (hQ : Q (f_Q_adjustDecimal_m M0)) : wp_Q_adjustDecimal M0 Q := by
  unfold wp_Q_adjustDecimal
  unfold f_Q_adjustDecimal_m at hQ
  intro x1 h_; subst h_
  intro x2 h_; subst h_
  refine ⟨fun hc => ?_, fun hc => ?_⟩
  · simp only [if_pos hc] at hQ
    exact sp_Q_adjustDecimal_j1 _ _ _ _ _ hQ
  · simp only [if_neg hc] at hQ
    exact sp_Q_adjustDecimal_j1 _ _ _ _ _ hQ
def f_Q_shifted_j5_v (M0 : Mem) (x241 : Int32) (x242 : Int32) (x245 : Int32) : Int32 := (x241 &&& (255 : Int32))
def f_Q_shifted_j5_m (M0 : Mem) (x241 : Int32) (x242 : Int32) (x245 : Int32) : Mem := let M246 : Mem := mst M0 17 6 (x242 ||| x245); M246
set_option maxRecDepth 100000 in
set_option maxHeartbeats 4000000 in
theorem sp_Q_shifted_j5 (M0 : Mem) (x241 : Int32) (x242 : Int32) (x245 : Int32) (Q : Int32 → Mem → Prop) (hQ : Q (f_Q_shifted_j5_v M0 x241 x242 x245) (f_Q_shifted_j5_m M0 x241 x242 x245)) : wp_Q_shifted_j5 M0 x241 x242 x245 Q := by
  unfold wp_Q_shifted_j5
  unfold f_Q_shifted_j5_v f_Q_shifted_j5_m at hQ
  intro M246 h_; subst h_
  exact hQ
def f_Q_shifted_j4_v (M0 : Mem) (x240 : Int32) (x241 : Int32) : Int32 := let x242 : Int32 := f_Q_zero_v M0 (x241 &&& (255 : Int32)); (if x240 = 0 then (f_Q_shifted_j5_v M0 x241 x242 (0 : Int32)) else (f_Q_shifted_j5_v M0 x241 x242 (16 : Int32)))
def f_Q_shifted_j4_m (M0 : Mem) (x240 : Int32) (x241 : Int32) : Mem := let x242 : Int32 := f_Q_zero_v M0 (x241 &&& (255 : Int32)); (if x240 = 0 then (f_Q_shifted_j5_m M0 x241 x242 (0 : Int32)) else (f_Q_shifted_j5_m M0 x241 x242 (16 : Int32)))
set_option maxRecDepth 100000 in
set_option maxHeartbeats 4000000 in
theorem sp_Q_shifted_j4 (M0 : Mem) (x240 : Int32) (x241 : Int32) (Q : Int32 → Mem → Prop) (hQ : Q (f_Q_shifted_j4_v M0 x240 x241) (f_Q_shifted_j4_m M0 x240 x241)) : wp_Q_shifted_j4 M0 x240 x241 Q := by
  unfold wp_Q_shifted_j4
  unfold f_Q_shifted_j4_v f_Q_shifted_j4_m at hQ
  refine sp_Q_zero _ _ _ ?_
  refine ⟨fun hc => ?_, fun hc => ?_⟩
  · simp only [if_pos hc] at hQ
    exact sp_Q_shifted_j5 _ _ _ _ _ hQ
  · simp only [if_neg hc] at hQ
    exact sp_Q_shifted_j5 _ _ _ _ _ hQ
def f_Q_shifted_j3_v (M0 : Mem) (a1 : Int32) (a2 : Int32) (x128 : Int32) (x224 : Int32) : Int32 := (if (a1 = (0 : Int32)) then let x247 : Int32 := ((a2 <<< ((1 : Int32) &&& (31 : Int32))) ||| x224); (f_Q_shifted_j4_v M0 x224 x247) else (if (a1 = (1 : Int32)) then let x248 : Int32 := ((a2 >>> ((1 : Int32) &&& (31 : Int32))) ||| (x224 <<< ((7 : Int32) &&& (31 : Int32)))); (f_Q_shifted_j4_v M0 x224 x248) else (if (a1 = (2 : Int32)) then let x249 : Int32 := ((a2 <<< ((1 : Int32) &&& (31 : Int32))) ||| x128); (f_Q_shifted_j4_v M0 x224 x249) else (if (a1 = (3 : Int32)) then let x250 : Int32 := ((a2 >>> ((1 : Int32) &&& (31 : Int32))) ||| (x128 <<< ((7 : Int32) &&& (31 : Int32)))); (f_Q_shifted_j4_v M0 x224 x250) else (if (a1 = (4 : Int32)) then let x251 : Int32 := (a2 <<< ((1 : Int32) &&& (31 : Int32))); (f_Q_shifted_j4_v M0 x224 x251) else (if (a1 = (5 : Int32)) then let x252 : Int32 := ((a2 >>> ((1 : Int32) &&& (31 : Int32))) ||| (a2 &&& (128 : Int32))); (f_Q_shifted_j4_v M0 x224 x252) else (if (a1 = (6 : Int32)) then let x253 : Int32 := ((a2 >>> ((4 : Int32) &&& (31 : Int32))) ||| (a2 <<< ((4 : Int32) &&& (31 : Int32)))); (f_Q_shifted_j4_v M0 (0 : Int32) x253) else let x254 : Int32 := (a2 >>> ((1 : Int32) &&& (31 : Int32))); (f_Q_shifted_j4_v M0 x224 x254))))))))
def f_Q_shifted_j3_m (M0 : Mem) (a1 : Int32) (a2 : Int32) (x128 : Int32) (x224 : Int32) : Mem := (if (a1 = (0 : Int32)) then let x247 : Int32 := ((a2 <<< ((1 : Int32) &&& (31 : Int32))) ||| x224); (f_Q_shifted_j4_m M0 x224 x247) else (if (a1 = (1 : Int32)) then let x248 : Int32 := ((a2 >>> ((1 : Int32) &&& (31 : Int32))) ||| (x224 <<< ((7 : Int32) &&& (31 : Int32)))); (f_Q_shifted_j4_m M0 x224 x248) else (if (a1 = (2 : Int32)) then let x249 : Int32 := ((a2 <<< ((1 : Int32) &&& (31 : Int32))) ||| x128); (f_Q_shifted_j4_m M0 x224 x249) else (if (a1 = (3 : Int32)) then let x250 : Int32 := ((a2 >>> ((1 : Int32) &&& (31 : Int32))) ||| (x128 <<< ((7 : Int32) &&& (31 : Int32)))); (f_Q_shifted_j4_m M0 x224 x250) else (if (a1 = (4 : Int32)) then let x251 : Int32 := (a2 <<< ((1 : Int32) &&& (31 : Int32))); (f_Q_shifted_j4_m M0 x224 x251) else (if (a1 = (5 : Int32)) then let x252 : Int32 := ((a2 >>> ((1 : Int32) &&& (31 : Int32))) ||| (a2 &&& (128 : Int32))); (f_Q_shifted_j4_m M0 x224 x252) else (if (a1 = (6 : Int32)) then let x253 : Int32 := ((a2 >>> ((4 : Int32) &&& (31 : Int32))) ||| (a2 <<< ((4 : Int32) &&& (31 : Int32)))); (f_Q_shifted_j4_m M0 (0 : Int32) x253) else let x254 : Int32 := (a2 >>> ((1 : Int32) &&& (31 : Int32))); (f_Q_shifted_j4_m M0 x224 x254))))))))
set_option maxRecDepth 100000 in
set_option maxHeartbeats 4000000 in
theorem sp_Q_shifted_j3 (M0 : Mem) (a1 : Int32) (a2 : Int32) (x128 : Int32) (x224 : Int32) (Q : Int32 → Mem → Prop) (hQ : Q (f_Q_shifted_j3_v M0 a1 a2 x128 x224) (f_Q_shifted_j3_m M0 a1 a2 x128 x224)) : wp_Q_shifted_j3 M0 a1 a2 x128 x224 Q := by
  unfold wp_Q_shifted_j3
  unfold f_Q_shifted_j3_v f_Q_shifted_j3_m at hQ
  refine ⟨fun hc => ?_, fun hc => ?_⟩
  · simp only [if_pos hc] at hQ
    intro x247 h_; subst h_
    exact sp_Q_shifted_j4 _ _ _ _ hQ
  · simp only [if_neg hc] at hQ
    refine ⟨fun hc => ?_, fun hc => ?_⟩
    · simp only [if_pos hc] at hQ
      intro x248 h_; subst h_
      exact sp_Q_shifted_j4 _ _ _ _ hQ
    · simp only [if_neg hc] at hQ
      refine ⟨fun hc => ?_, fun hc => ?_⟩
      · simp only [if_pos hc] at hQ
        intro x249 h_; subst h_
        exact sp_Q_shifted_j4 _ _ _ _ hQ
      · simp only [if_neg hc] at hQ
        refine ⟨fun hc => ?_, fun hc => ?_⟩
        · simp only [if_pos hc] at hQ
          intro x250 h_; subst h_
          exact sp_Q_shifted_j4 _ _ _ _ hQ
        · simp only [if_neg hc] at hQ
          refine ⟨fun hc => ?_, fun hc => ?_⟩
          · simp only [if_pos hc] at hQ
            intro x251 h_; subst h_
            exact sp_Q_shifted_j4 _ _ _ _ hQ
          · simp only [if_neg hc] at hQ
            refine ⟨fun hc => ?_, fun hc => ?_⟩
            · simp only [if_pos hc] at hQ
              intro x252 h_; subst h_
              exact sp_Q_shifted_j4 _ _ _ _ hQ
            · simp only [if_neg hc] at hQ
              refine ⟨fun hc => ?_, fun hc => ?_⟩
              · simp only [if_pos hc] at hQ
                intro x253 h_; subst h_
                exact sp_Q_shifted_j4 _ _ _ _ hQ
              · simp only [if_neg hc] at hQ
                intro x254 h_; subst h_
                exact sp_Q_shifted_j4 _ _ _ _ hQ
def f_Q_shifted_j2_v (M0 : Mem) (a1 : Int32) (a2 : Int32) (x128 : Int32) (x192 : Int32) : Int32 := (if x192 = 0 then (f_Q_shifted_j3_v M0 a1 a2 x128 (a2 &&& (1 : Int32))) else (f_Q_shifted_j3_v M0 a1 a2 x128 (a2 >>> ((7 : Int32) &&& (31 : Int32)))))
def f_Q_shifted_j2_m (M0 : Mem) (a1 : Int32) (a2 : Int32) (x128 : Int32) (x192 : Int32) : Mem := (if x192 = 0 then (f_Q_shifted_j3_m M0 a1 a2 x128 (a2 &&& (1 : Int32))) else (f_Q_shifted_j3_m M0 a1 a2 x128 (a2 >>> ((7 : Int32) &&& (31 : Int32)))))
set_option maxRecDepth 100000 in
set_option maxHeartbeats 4000000 in
theorem sp_Q_shifted_j2 (M0 : Mem) (a1 : Int32) (a2 : Int32) (x128 : Int32) (x192 : Int32) (Q : Int32 → Mem → Prop) (hQ : Q (f_Q_shifted_j2_v M0 a1 a2 x128 x192) (f_Q_shifted_j2_m M0 a1 a2 x128 x192)) : wp_Q_shifted_j2 M0 a1 a2 x128 x192 Q := by
  unfold wp_Q_shifted_j2
  unfold f_Q_shifted_j2_v f_Q_shifted_j2_m at hQ
  refine ⟨fun hc => ?_, fun hc => ?_⟩
  · simp only [if_pos hc] at hQ
    exact sp_Q_shifted_j3 _ _ _ _ _ _ hQ
  · simp only [if_neg hc] at hQ
    exact sp_Q_shifted_j3 _ _ _ _ _ _ hQ
def f_Q_shifted_j6_v (M0 : Mem) (a1 : Int32) (a2 : Int32) (x128 : Int32) : Int32 := (f_Q_shifted_j2_v M0 a1 a2 x128 (1 : Int32))
def f_Q_shifted_j6_m (M0 : Mem) (a1 : Int32) (a2 : Int32) (x128 : Int32) : Mem := (f_Q_shifted_j2_m M0 a1 a2 x128 (1 : Int32))
set_option maxRecDepth 100000 in
set_option maxHeartbeats 4000000 in
theorem sp_Q_shifted_j6 (M0 : Mem) (a1 : Int32) (a2 : Int32) (x128 : Int32) (Q : Int32 → Mem → Prop) (hQ : Q (f_Q_shifted_j6_v M0 a1 a2 x128) (f_Q_shifted_j6_m M0 a1 a2 x128)) : wp_Q_shifted_j6 M0 a1 a2 x128 Q := by
  unfold wp_Q_shifted_j6
  unfold f_Q_shifted_j6_v f_Q_shifted_j6_m at hQ
  exact sp_Q_shifted_j2 _ _ _ _ _ _ hQ
def f_Q_shifted_j1_v (M0 : Mem) (a1 : Int32) (a2 : Int32) (x128 : Int32) : Int32 := (if a1 = 0 then (f_Q_shifted_j6_v M0 a1 a2 x128) else (if a1 = (2 : Int32) then (f_Q_shifted_j6_v M0 a1 a2 x128) else (if a1 = (4 : Int32) then (f_Q_shifted_j6_v M0 a1 a2 x128) else (f_Q_shifted_j2_v M0 a1 a2 x128 (0 : Int32)))))
def f_Q_shifted_j1_m (M0 : Mem) (a1 : Int32) (a2 : Int32) (x128 : Int32) : Mem := (if a1 = 0 then (f_Q_shifted_j6_m M0 a1 a2 x128) else (if a1 = (2 : Int32) then (f_Q_shifted_j6_m M0 a1 a2 x128) else (if a1 = (4 : Int32) then (f_Q_shifted_j6_m M0 a1 a2 x128) else (f_Q_shifted_j2_m M0 a1 a2 x128 (0 : Int32)))))
set_option maxRecDepth 100000 in
set_option maxHeartbeats 4000000 in
theorem sp_Q_shifted_j1 (M0 : Mem) (a1 : Int32) (a2 : Int32) (x128 : Int32) (Q : Int32 → Mem → Prop) (hQ : Q (f_Q_shifted_j1_v M0 a1 a2 x128) (f_Q_shifted_j1_m M0 a1 a2 x128)) : wp_Q_shifted_j1 M0 a1 a2 x128 Q := by
  unfold wp_Q_shifted_j1
  unfold f_Q_shifted_j1_v f_Q_shifted_j1_m at hQ
  refine ⟨fun hc => ?_, fun hc => ?_⟩
  · simp only [if_pos hc] at hQ
    exact sp_Q_shifted_j6 _ _ _ _ _ hQ
  · simp only [if_neg hc] at hQ
    refine ⟨fun hc => ?_, fun hc => ?_⟩
    · simp only [if_pos hc] at hQ
      exact sp_Q_shifted_j6 _ _ _ _ _ hQ
    · simp only [if_neg hc] at hQ
      refine ⟨fun hc => ?_, fun hc => ?_⟩
      · simp only [if_neg hc] at hQ
        exact sp_Q_shifted_j2 _ _ _ _ _ _ hQ
      · simp only [if_pos hc] at hQ
        exact sp_Q_shifted_j6 _ _ _ _ _ hQ
def f_Q_shifted_v (M0 : Mem) (a1 : Int32) (a2 : Int32) : Int32 := (if ((M0 17 6) &&& (16 : Int32)) = 0 then (f_Q_shifted_j1_v M0 a1 a2 (0 : Int32)) else (f_Q_shifted_j1_v M0 a1 a2 (1 : Int32)))
def f_Q_shifted_m (M0 : Mem) (a1 : Int32) (a2 : Int32) : Mem := (if ((M0 17 6) &&& (16 : Int32)) = 0 then (f_Q_shifted_j1_m M0 a1 a2 (0 : Int32)) else (f_Q_shifted_j1_m M0 a1 a2 (1 : Int32)))
set_option maxRecDepth 100000 in
set_option maxHeartbeats 4000000 in
theorem sp_Q_shifted (M0 : Mem) (a1 : Int32) (a2 : Int32) (Q : Int32 → Mem → Prop) (hQ : Q (f_Q_shifted_v M0 a1 a2) (f_Q_shifted_m M0 a1 a2)) : wp_Q_shifted M0 a1 a2 Q := by
  unfold wp_Q_shifted
  unfold f_Q_shifted_v f_Q_shifted_m at hQ
  refine ⟨fun hc => ?_, fun hc => ?_⟩
  · simp only [if_pos hc] at hQ
    exact sp_Q_shifted_j1 _ _ _ _ _ hQ
  · simp only [if_neg hc] at hQ
    exact sp_Q_shifted_j1 _ _ _ _ _ hQ
def f_Q_changeA_j1_m (M12 : Mem) : Mem := M12
set_option maxRecDepth 100000 in
set_option maxHeartbeats 4000000 in
theorem sp_Q_changeA_j1 (M12 : Mem) (Q : Mem → Prop) (hQ : Q (f_Q_changeA_j1_m M12)) : wp_Q_changeA_j1 M12 Q := by
  unfold wp_Q_changeA_j1
  unfold f_Q_changeA_j1_m at hQ
  exact hQ
def f_Q_changeA_m (M0 : Mem) (a1 : Int32) : Mem := let x1 : Int32 := (M0 17 6); (if (a1 = (4 : Int32)) then let M13 : Mem := f_Q_adjustDecimal_m M0; (f_Q_changeA_j1_m M13) else (if (a1 = (5 : Int32)) then let M14 : Mem := mst M0 17 7 ((M0 17 7) ^^^ (255 : Int32)); let M15 : Mem := mst M14 17 6 ((x1 ||| (64 : Int32)) ||| (32 : Int32)); (f_Q_changeA_j1_m M15) else (if (a1 = (6 : Int32)) then let M16 : Mem := mst M0 17 6 ((x1 &&& (128 : Int32)) ||| (16 : Int32)); (f_Q_changeA_j1_m M16) else (if (a1 = (7 : Int32)) then let M17 : Mem := mst M0 17 6 ((x1 &&& (144 : Int32)) ^^^ (16 : Int32)); (f_Q_changeA_j1_m M17) else let x18 : Int32 := f_Q_shifted_v M0 a1 (M0 17 7); let M19 : Mem := f_Q_shifted_m M0 a1 (M0 17 7); let M20 : Mem := mst M19 17 7 x18; let M21 : Mem := mst M20 17 6 ((M20 17 6) &&& (16 : Int32)); (f_Q_changeA_j1_m M21)))))
set_option maxRecDepth 100000 in
set_option maxHeartbeats 4000000 in
theorem sp_Q_changeA (M0 : Mem) (a1 : Int32) (Q : Mem → Prop) (hQ : Q (f_Q_changeA_m M0 a1)) : wp_Q_changeA M0 a1 Q := by
  unfold wp_Q_changeA
  unfold f_Q_changeA_m at hQ
  intro x1 h_; subst h_
  refine ⟨fun hc => ?_, fun hc => ?_⟩
  · simp only [if_pos hc] at hQ
    refine sp_Q_adjustDecimal _ _ ?_
    exact sp_Q_changeA_j1 _ _ hQ
  · simp only [if_neg hc] at hQ
    refine ⟨fun hc => ?_, fun hc => ?_⟩
    · simp only [if_pos hc] at hQ
      intro M14 h_; subst h_
      intro M15 h_; subst h_
      exact sp_Q_changeA_j1 _ _ hQ
    · simp only [if_neg hc] at hQ
      refine ⟨fun hc => ?_, fun hc => ?_⟩
      · simp only [if_pos hc] at hQ
        intro M16 h_; subst h_
        exact sp_Q_changeA_j1 _ _ hQ
      · simp only [if_neg hc] at hQ
        refine ⟨fun hc => ?_, fun hc => ?_⟩
        · simp only [if_pos hc] at hQ
          intro M17 h_; subst h_
          exact sp_Q_changeA_j1 _ _ hQ
        · simp only [if_neg hc] at hQ
          refine sp_Q_shifted _ _ _ _ ?_
          intro M20 h_; subst h_
          intro M21 h_; subst h_
          exact sp_Q_changeA_j1 _ _ hQ
def f_Q_doLow_j2_m (M151 : Mem) : Mem := M151
set_option maxRecDepth 100000 in
set_option maxHeartbeats 4000000 in
theorem sp_Q_doLow_j2 (M151 : Mem) (Q : Mem → Prop) (hQ : Q (f_Q_doLow_j2_m M151)) : wp_Q_doLow_j2 M151 Q := by
  unfold wp_Q_doLow_j2
  unfold f_Q_doLow_j2_m at hQ
  exact hQ
def f_Q_doLow_j3_m (M153 : Mem) (x154 : Int32) (x158 : Int32) : Mem := let M159 : Mem := f_Q_jump_m M153 x158 ((M153 5 8) + x154); (f_Q_doLow_j2_m M159)
set_option maxRecDepth 100000 in
set_option maxHeartbeats 4000000 in
theorem sp_Q_doLow_j3 (M153 : Mem) (x154 : Int32) (x158 : Int32) (Q : Mem → Prop) (hQ : Q (f_Q_doLow_j3_m M153 x154 x158)) : wp_Q_doLow_j3 M153 x154 x158 Q := by
  unfold wp_Q_doLow_j3
  unfold f_Q_doLow_j3_m at hQ
  refine sp_Q_jump _ _ _ _ ?_
  exact sp_Q_doLow_j2 _ _ hQ
def f_Q_doLow_j4_m (M153 : Mem) (x154 : Int32) : Mem := (f_Q_doLow_j3_m M153 x154 (1 : Int32))
set_option maxRecDepth 100000 in
set_option maxHeartbeats 4000000 in
theorem sp_Q_doLow_j4 (M153 : Mem) (x154 : Int32) (Q : Mem → Prop) (hQ : Q (f_Q_doLow_j4_m M153 x154)) : wp_Q_doLow_j4 M153 x154 Q := by
  unfold wp_Q_doLow_j4
  unfold f_Q_doLow_j4_m at hQ
  exact sp_Q_doLow_j3 _ _ _ _ hQ
def f_Q_doLow_j5_m (M173 : Mem) (x174 : Int32) (x177 : Int32) : Mem := let M178 : Mem := f_Q_setPair_m M173 (2 : Int32) (x174 + x177); (f_Q_doLow_j2_m M178)
def ok_Q_doLow_j5 (M173 : Mem) (x174 : Int32) (x177 : Int32) : Prop := ok_Q_setPair M173 (2 : Int32) (x174 + x177)
set_option maxRecDepth 100000 in
set_option maxHeartbeats 4000000 in
theorem sp_Q_doLow_j5 (M173 : Mem) (x174 : Int32) (x177 : Int32) (Q : Mem → Prop) (hok : ok_Q_doLow_j5 M173 x174 x177) (hQ : Q (f_Q_doLow_j5_m M173 x174 x177)) : wp_Q_doLow_j5 M173 x174 x177 Q := by
  unfold wp_Q_doLow_j5
  unfold ok_Q_doLow_j5 at hok
  unfold f_Q_doLow_j5_m at hQ
  refine sp_Q_setPair _ _ _ _ hok ?_
  exact sp_Q_doLow_j2 _ _ hQ
def f_Q_doLow_j6_m (M0 : Mem) (x1 : Int32) (x179 : Int32) (x183 : Int32) : Mem := let M184 : Mem := f_Q_setPair_m M0 x1 (x179 + x183); let M185 : Mem := mst M184 5 10 ((M184 5 10) + (1 : Int32)); (f_Q_doLow_j2_m M185)
def ok_Q_doLow_j6 (M0 : Mem) (x1 : Int32) (x179 : Int32) (x183 : Int32) : Prop := ok_Q_setPair M0 x1 (x179 + x183)
set_option maxRecDepth 100000 in
set_option maxHeartbeats 4000000 in
theorem sp_Q_doLow_j6 (M0 : Mem) (x1 : Int32) (x179 : Int32) (x183 : Int32) (Q : Mem → Prop) (hok : ok_Q_doLow_j6 M0 x1 x179 x183) (hQ : Q (f_Q_doLow_j6_m M0 x1 x179 x183)) : wp_Q_doLow_j6 M0 x1 x179 x183 Q := by
  unfold wp_Q_doLow_j6
  unfold ok_Q_doLow_j6 at hok
  unfold f_Q_doLow_j6_m at hQ
  refine sp_Q_setPair _ _ _ _ hok ?_
  intro M185 h_; subst h_
  exact sp_Q_doLow_j2 _ _ hQ
def f_Q_doLow_j1_m (M0 : Mem) (a1 : Int32) (a2 : Int32) (x1 : Int32) (x101 : Int32) : Mem := (if (a2 = (0 : Int32)) then (if a1 = (1 : Int32) then let x164 : Int32 := f_Q_fetchWord_v M0; let M165 : Mem := f_Q_fetchWord_m M0; let M166 : Mem := f_Q_storeStackPointer_m M165 x164; (f_Q_doLow_j2_m M166) else (if a1 = (2 : Int32) then let M162 : Mem := f_Q_fetch_m M0; let M163 : Mem := f_P_clearDivider_m M162; (f_Q_doLow_j2_m M163) else (if a1 < (3 : Int32) then (f_Q_doLow_j2_m M0) else let x152 : Int32 := f_Q_fetch_v M0; let M153 : Mem := f_Q_fetch_m M0; let x154 : Int32 := (x152.toInt8.toInt32); (if a1 = (3 : Int32) then (f_Q_doLow_j4_m M153 x154) else let x160 : Int32 := f_Q_holds_v M153 (a1 - (4 : Int32)); (if x160 = 0 then (f_Q_doLow_j3_m M153 x154 (0 : Int32)) else (f_Q_doLow_j4_m M153 x154)))))) else (if (a2 = (1 : Int32)) then (if x101 = 0 then let x167 : Int32 := f_Q_fetchWord_v M0; let M168 : Mem := f_Q_fetchWord_m M0; let M169 : Mem := f_Q_setPair_m M168 x1 x167; (f_Q_doLow_j2_m M169) else let x170 : Int32 := f_Q_pair_v M0 x1; let M171 : Mem := f_Q_addToHl_m M0 x170; (f_Q_doLow_j2_m M171)) else (if (a2 = (2 : Int32)) then let x172 : Int32 := f_Q_pair_v M0 (if (2 : Int32) < x1 then (2 : Int32) else x1); let M173 : Mem := f_Q_copyA_m M0 x172 x101; (if x1 < (2 : Int32) then (f_Q_doLow_j2_m M173) else let x174 : Int32 := f_Q_pair_v M173 (2 : Int32); (if x1 = (2 : Int32) then (f_Q_doLow_j5_m M173 x174 (1 : Int32)) else (f_Q_doLow_j5_m M173 x174 (-1 : Int32)))) else (if (a2 = (3 : Int32)) then let x179 : Int32 := f_Q_pair_v M0 x1; (if x101 = 0 then (f_Q_doLow_j6_m M0 x1 x179 (1 : Int32)) else (f_Q_doLow_j6_m M0 x1 x179 (-1 : Int32))) else (if (a2 = (4 : Int32)) then let x186 : Int32 := f_Q_octetAt_v M0 a1; let M187 : Mem := f_Q_octetAt_m M0 a1; let x188 : Int32 := f_Q_increased_v M187 x186; let M189 : Mem := f_Q_increased_m M187 x186; let M190 : Mem := f_Q_setOctet_m M189 a1 x188; (f_Q_doLow_j2_m M190) else (if (a2 = (5 : Int32)) then let x191 : Int32 := f_Q_octetAt_v M0 a1; let M192 : Mem := f_Q_octetAt_m M0 a1; let x193 : Int32 := f_Q_decreased_v M192 x191; let M194 : Mem := f_Q_decreased_m M192 x191; let M195 : Mem := f_Q_setOctet_m M194 a1 x193; (f_Q_doLow_j2_m M195) else (if (a2 = (6 : Int32)) then let x196 : Int32 := f_Q_fetch_v M0; let M197 : Mem := f_Q_fetch_m M0; let M198 : Mem := f_Q_setOctet_m M197 a1 x196; (f_Q_doLow_j2_m M198) else let M199 : Mem := f_Q_changeA_m M0 a1; (f_Q_doLow_j2_m M199))))))))
def ok_Q_doLow_j1 (M0 : Mem) (a1 : Int32) (a2 : Int32) (x1 : Int32) (x101 : Int32) : Prop := ((((a2 = (0 : Int32))) → (((¬ a1 = (1 : Int32)) → (((¬ a1 = (2 : Int32)) → (((a1 < (3 : Int32)) → True) ∧ ((¬ a1 < (3 : Int32)) → ok_Q_fetch M0 ∧ (∀ x152 : Int32, x152 = f_Q_fetch_v M0 → ∀ M153 : Mem, M153 = f_Q_fetch_m M0 → ∀ x154 : Int32, x154 = (x152.toInt8.toInt32) → (((a1 = (3 : Int32)) → True) ∧ ((¬ a1 = (3 : Int32)) → ok_Q_holds M153 (a1 - (4 : Int32)))))))) ∧ ((a1 = (2 : Int32)) → ok_Q_fetch M0))) ∧ ((a1 = (1 : Int32)) → ok_Q_fetchWord M0 ∧ (∀ x164 : Int32, x164 = f_Q_fetchWord_v M0 → ∀ M165 : Mem, M165 = f_Q_fetchWord_m M0 → ok_Q_storeStackPointer M165 x164)))) ∧ ((¬ (a2 = (0 : Int32))) → ((((a2 = (1 : Int32))) → (((x101 = 0) → ok_Q_fetchWord M0 ∧ (∀ x167 : Int32, x167 = f_Q_fetchWord_v M0 → ∀ M168 : Mem, M168 = f_Q_fetchWord_m M0 → ok_Q_setPair M168 x1 x167)) ∧ ((¬ x101 = 0) → ok_Q_pair M0 x1 ∧ (∀ x170 : Int32, x170 = f_Q_pair_v M0 x1 → ok_Q_addToHl M0 x170)))) ∧ ((¬ (a2 = (1 : Int32))) → ((((a2 = (2 : Int32))) → ok_Q_pair M0 (if (2 : Int32) < x1 then (2 : Int32) else x1) ∧ (∀ x172 : Int32, x172 = f_Q_pair_v M0 (if (2 : Int32) < x1 then (2 : Int32) else x1) → ok_Q_copyA M0 x172 x101 ∧ (∀ M173 : Mem, M173 = f_Q_copyA_m M0 x172 x101 → (((x1 < (2 : Int32)) → True) ∧ ((¬ x1 < (2 : Int32)) → ok_Q_pair M173 (2 : Int32) ∧ (∀ x174 : Int32, x174 = f_Q_pair_v M173 (2 : Int32) → (((¬ x1 = (2 : Int32)) → ok_Q_doLow_j5 M173 x174 (-1 : Int32)) ∧ ((x1 = (2 : Int32)) → ok_Q_doLow_j5 M173 x174 (1 : Int32))))))))) ∧ ((¬ (a2 = (2 : Int32))) → ((((a2 = (3 : Int32))) → ok_Q_pair M0 x1 ∧ (∀ x179 : Int32, x179 = f_Q_pair_v M0 x1 → (((x101 = 0) → ok_Q_doLow_j6 M0 x1 x179 (1 : Int32)) ∧ ((¬ x101 = 0) → ok_Q_doLow_j6 M0 x1 x179 (-1 : Int32))))) ∧ ((¬ (a2 = (3 : Int32))) → ((((a2 = (4 : Int32))) → ok_Q_octetAt M0 a1 ∧ (∀ x186 : Int32, x186 = f_Q_octetAt_v M0 a1 → ∀ M187 : Mem, M187 = f_Q_octetAt_m M0 a1 → ∀ x188 : Int32, x188 = f_Q_increased_v M187 x186 → ∀ M189 : Mem, M189 = f_Q_increased_m M187 x186 → ok_Q_setOctet M189 a1 x188)) ∧ ((¬ (a2 = (4 : Int32))) → ((((a2 = (5 : Int32))) → ok_Q_octetAt M0 a1 ∧ (∀ x191 : Int32, x191 = f_Q_octetAt_v M0 a1 → ∀ M192 : Mem, M192 = f_Q_octetAt_m M0 a1 → ∀ x193 : Int32, x193 = f_Q_decreased_v M192 x191 → ∀ M194 : Mem, M194 = f_Q_decreased_m M192 x191 → ok_Q_setOctet M194 a1 x193)) ∧ ((¬ (a2 = (5 : Int32))) → ((((a2 = (6 : Int32))) → ok_Q_fetch M0 ∧ (∀ x196 : Int32, x196 = f_Q_fetch_v M0 → ∀ M197 : Mem, M197 = f_Q_fetch_m M0 → ok_Q_setOctet M197 a1 x196)) ∧ ((¬ (a2 = (6 : Int32))) → True))))))))))))))
set_option maxRecDepth 100000 in
set_option maxHeartbeats 4000000 in
theorem sp_Q_doLow_j1 (M0 : Mem) (a1 : Int32) (a2 : Int32) (x1 : Int32) (x101 : Int32) (Q : Mem → Prop) (hok : ok_Q_doLow_j1 M0 a1 a2 x1 x101) (hQ : Q (f_Q_doLow_j1_m M0 a1 a2 x1 x101)) : wp_Q_doLow_j1 M0 a1 a2 x1 x101 Q := by
  unfold wp_Q_doLow_j1
  unfold ok_Q_doLow_j1 at hok
  unfold f_Q_doLow_j1_m at hQ
  refine ⟨fun hc => ?_, fun hc => ?_⟩
  · simp only [if_pos hc] at hQ
    have hok := hok.1 hc
    refine ⟨fun hc => ?_, fun hc => ?_⟩
    · simp only [if_neg hc] at hQ
      have hok := hok.1 hc
      refine ⟨fun hc => ?_, fun hc => ?_⟩
      · simp only [if_neg hc] at hQ
        have hok := hok.1 hc
        refine ⟨fun hc => ?_, fun hc => ?_⟩
        · simp only [if_pos hc] at hQ
          exact sp_Q_doLow_j2 _ _ hQ
        · simp only [if_neg hc] at hQ
          have hok := hok.2 hc
          refine sp_Q_fetch _ _ hok.1 ?_
          have hok := hok.2 _ rfl _ rfl
          intro x154 h_; subst h_
          have hok := hok _ rfl
          refine ⟨fun hc => ?_, fun hc => ?_⟩
          · simp only [if_pos hc] at hQ
            exact sp_Q_doLow_j4 _ _ _ hQ
          · simp only [if_neg hc] at hQ
            have hok := hok.2 hc
            refine sp_Q_holds _ _ _ hok ?_
            refine ⟨fun hc => ?_, fun hc => ?_⟩
            · simp only [if_pos hc] at hQ
              exact sp_Q_doLow_j3 _ _ _ _ hQ
            · simp only [if_neg hc] at hQ
              exact sp_Q_doLow_j4 _ _ _ hQ
      · simp only [if_pos hc] at hQ
        have hok := hok.2 hc
        refine sp_Q_fetch _ _ hok ?_
        refine sp_P_clearDivider _ _ ?_
        exact sp_Q_doLow_j2 _ _ hQ
    · simp only [if_pos hc] at hQ
      have hok := hok.2 hc
      refine sp_Q_fetchWord _ _ hok.1 ?_
      have hok := hok.2 _ rfl _ rfl
      refine sp_Q_storeStackPointer _ _ _ hok ?_
      exact sp_Q_doLow_j2 _ _ hQ
  · simp only [if_neg hc] at hQ
    have hok := hok.2 hc
    refine ⟨fun hc => ?_, fun hc => ?_⟩
    · simp only [if_pos hc] at hQ
      have hok := hok.1 hc
      refine ⟨fun hc => ?_, fun hc => ?_⟩
      · simp only [if_pos hc] at hQ
        have hok := hok.1 hc
        refine sp_Q_fetchWord _ _ hok.1 ?_
        have hok := hok.2 _ rfl _ rfl
        refine sp_Q_setPair _ _ _ _ hok ?_
        exact sp_Q_doLow_j2 _ _ hQ
      · simp only [if_neg hc] at hQ
        have hok := hok.2 hc
        refine sp_Q_pair _ _ _ hok.1 ?_
        have hok := hok.2 _ rfl
        refine sp_Q_addToHl _ _ _ hok ?_
        exact sp_Q_doLow_j2 _ _ hQ
    · simp only [if_neg hc] at hQ
      have hok := hok.2 hc
      refine ⟨fun hc => ?_, fun hc => ?_⟩
      · simp only [if_pos hc] at hQ
        have hok := hok.1 hc
        refine sp_Q_pair _ _ _ hok.1 ?_
        have hok := hok.2 _ rfl
        refine sp_Q_copyA _ _ _ _ hok.1 ?_
        have hok := hok.2 _ rfl
        refine ⟨fun hc => ?_, fun hc => ?_⟩
        · simp only [if_pos hc] at hQ
          exact sp_Q_doLow_j2 _ _ hQ
        · simp only [if_neg hc] at hQ
          have hok := hok.2 hc
          refine sp_Q_pair _ _ _ hok.1 ?_
          have hok := hok.2 _ rfl
          refine ⟨fun hc => ?_, fun hc => ?_⟩
          · simp only [if_neg hc] at hQ
            have hok := hok.1 hc
            exact sp_Q_doLow_j5 _ _ _ _ hok hQ
          · simp only [if_pos hc] at hQ
            have hok := hok.2 hc
            exact sp_Q_doLow_j5 _ _ _ _ hok hQ
      · simp only [if_neg hc] at hQ
        have hok := hok.2 hc
        refine ⟨fun hc => ?_, fun hc => ?_⟩
        · simp only [if_pos hc] at hQ
          have hok := hok.1 hc
          refine sp_Q_pair _ _ _ hok.1 ?_
          have hok := hok.2 _ rfl
          refine ⟨fun hc => ?_, fun hc => ?_⟩
          · simp only [if_pos hc] at hQ
            have hok := hok.1 hc
            exact sp_Q_doLow_j6 _ _ _ _ _ hok hQ
          · simp only [if_neg hc] at hQ
            have hok := hok.2 hc
            exact sp_Q_doLow_j6 _ _ _ _ _ hok hQ
        · simp only [if_neg hc] at hQ
          have hok := hok.2 hc
          refine ⟨fun hc => ?_, fun hc => ?_⟩
          · simp only [if_pos hc] at hQ
            have hok := hok.1 hc
            refine sp_Q_octetAt _ _ _ hok.1 ?_
            have hok := hok.2 _ rfl _ rfl
            refine sp_Q_increased _ _ _ ?_
            have hok := hok _ rfl _ rfl
            refine sp_Q_setOctet _ _ _ _ hok ?_
            exact sp_Q_doLow_j2 _ _ hQ
          · simp only [if_neg hc] at hQ
            have hok := hok.2 hc
            refine ⟨fun hc => ?_, fun hc => ?_⟩
            · simp only [if_pos hc] at hQ
              have hok := hok.1 hc
              refine sp_Q_octetAt _ _ _ hok.1 ?_
              have hok := hok.2 _ rfl _ rfl
              refine sp_Q_decreased _ _ _ ?_
              have hok := hok _ rfl _ rfl
              refine sp_Q_setOctet _ _ _ _ hok ?_
              exact sp_Q_doLow_j2 _ _ hQ
            · simp only [if_neg hc] at hQ
              have hok := hok.2 hc
              refine ⟨fun hc => ?_, fun hc => ?_⟩
              · simp only [if_pos hc] at hQ
                have hok := hok.1 hc
                refine sp_Q_fetch _ _ hok.1 ?_
                have hok := hok.2 _ rfl _ rfl
                refine sp_Q_setOctet _ _ _ _ hok ?_
                exact sp_Q_doLow_j2 _ _ hQ
              · simp only [if_neg hc] at hQ
                refine sp_Q_changeA _ _ _ ?_
                exact sp_Q_doLow_j2 _ _ hQ
def f_Q_doLow_m (M0 : Mem) (a1 : Int32) (a2 : Int32) : Mem := let x1 : Int32 := (a1 >>> ((1 : Int32) &&& (31 : Int32))); (if (a1 &&& (1 : Int32)) = 0 then (f_Q_doLow_j1_m M0 a1 a2 x1 (0 : Int32)) else (f_Q_doLow_j1_m M0 a1 a2 x1 (1 : Int32)))
def ok_Q_doLow (M0 : Mem) (a1 : Int32) (a2 : Int32) : Prop := ∀ x1 : Int32, x1 = (a1 >>> ((1 : Int32) &&& (31 : Int32))) → ((((a1 &&& (1 : Int32)) = 0) → ok_Q_doLow_j1 M0 a1 a2 x1 (0 : Int32)) ∧ ((¬ (a1 &&& (1 : Int32)) = 0) → ok_Q_doLow_j1 M0 a1 a2 x1 (1 : Int32)))
set_option maxRecDepth 100000 in
set_option maxHeartbeats 4000000 in
theorem sp_Q_doLow (M0 : Mem) (a1 : Int32) (a2 : Int32) (Q : Mem → Prop) (hok : ok_Q_doLow M0 a1 a2) (hQ : Q (f_Q_doLow_m M0 a1 a2)) : wp_Q_doLow M0 a1 a2 Q := by
  unfold wp_Q_doLow
  unfold ok_Q_doLow at hok
  unfold f_Q_doLow_m at hQ
  intro x1 h_; subst h_
  have hok := hok _ rfl
  refine ⟨fun hc => ?_, fun hc => ?_⟩
  · simp only [if_pos hc] at hQ
    have hok := hok.1 hc
    exact sp_Q_doLow_j1 _ _ _ _ _ _ hok hQ
  · simp only [if_neg hc] at hQ
    have hok := hok.2 hc
    exact sp_Q_doLow_j1 _ _ _ _ _ _ hok hQ
def f_Q_doCopy_j1_m (M6 : Mem) : Mem := M6
set_option maxRecDepth 100000 in
set_option maxHeartbeats 4000000 in
theorem sp_Q_doCopy_j1 (M6 : Mem) (Q : Mem → Prop) (hQ : Q (f_Q_doCopy_j1_m M6)) : wp_Q_doCopy_j1 M6 Q := by
  unfold wp_Q_doCopy_j1
  unfold f_Q_doCopy_j1_m at hQ
  exact hQ
def f_Q_doCopy_j2_m (M0 : Mem) (a1 : Int32) (a2 : Int32) : Mem := let x7 : Int32 := f_Q_octetAt_v M0 a2; let M8 : Mem := f_Q_octetAt_m M0 a2; let M9 : Mem := f_Q_setOctet_m M8 a1 x7; (f_Q_doCopy_j1_m M9)
def ok_Q_doCopy_j2 (M0 : Mem) (a1 : Int32) (a2 : Int32) : Prop := ok_Q_octetAt M0 a2 ∧ (∀ x7 : Int32, x7 = f_Q_octetAt_v M0 a2 → ∀ M8 : Mem, M8 = f_Q_octetAt_m M0 a2 → ok_Q_setOctet M8 a1 x7)
set_option maxRecDepth 100000 in
set_option maxHeartbeats 4000000 in
theorem sp_Q_doCopy_j2 (M0 : Mem) (a1 : Int32) (a2 : Int32) (Q : Mem → Prop) (hok : ok_Q_doCopy_j2 M0 a1 a2) (hQ : Q (f_Q_doCopy_j2_m M0 a1 a2)) : wp_Q_doCopy_j2 M0 a1 a2 Q := by
  unfold wp_Q_doCopy_j2
  unfold ok_Q_doCopy_j2 at hok
  unfold f_Q_doCopy_j2_m at hQ
  refine sp_Q_octetAt _ _ _ hok.1 ?_
  have hok := hok.2 _ rfl _ rfl
  refine sp_Q_setOctet _ _ _ _ hok ?_
  exact sp_Q_doCopy_j1 _ _ hQ
def f_Q_doCopy_m (M0 : Mem) (a1 : Int32) (a2 : Int32) : Mem := (if a1 = (6 : Int32) then (if a2 = (6 : Int32) then let M10 : Mem := mst M0 5 4 (1 : Int32); (f_Q_doCopy_j1_m M10) else (f_Q_doCopy_j2_m M0 a1 a2)) else (f_Q_doCopy_j2_m M0 a1 a2))
def ok_Q_doCopy (M0 : Mem) (a1 : Int32) (a2 : Int32) : Prop := (((¬ a1 = (6 : Int32)) → ok_Q_doCopy_j2 M0 a1 a2) ∧ ((a1 = (6 : Int32)) → (((¬ a2 = (6 : Int32)) → ok_Q_doCopy_j2 M0 a1 a2) ∧ ((a2 = (6 : Int32)) → True))))
set_option maxRecDepth 100000 in
set_option maxHeartbeats 4000000 in
theorem sp_Q_doCopy (M0 : Mem) (a1 : Int32) (a2 : Int32) (Q : Mem → Prop) (hok : ok_Q_doCopy M0 a1 a2) (hQ : Q (f_Q_doCopy_m M0 a1 a2)) : wp_Q_doCopy M0 a1 a2 Q := by
  unfold wp_Q_doCopy
  unfold ok_Q_doCopy at hok
  unfold f_Q_doCopy_m at hQ
  refine ⟨fun hc => ?_, fun hc => ?_⟩
  · simp only [if_neg hc] at hQ
    have hok := hok.1 hc
    exact sp_Q_doCopy_j2 _ _ _ _ hok hQ
  · simp only [if_pos hc] at hQ
    have hok := hok.2 hc
    refine ⟨fun hc => ?_, fun hc => ?_⟩
    · simp only [if_neg hc] at hQ
      have hok := hok.1 hc
      exact sp_Q_doCopy_j2 _ _ _ _ hok hQ
    · simp only [if_pos hc] at hQ
      intro M10 h_; subst h_
      exact sp_Q_doCopy_j1 _ _ hQ
def f_Q_add_j2_m (x10 : Int32) (M11 : Mem) (x12 : Int32) (x15 : Int32) : Mem := let M16 : Mem := mst M11 17 6 ((x12 ||| x10) ||| x15); M16
set_option maxRecDepth 100000 in
set_option maxHeartbeats 4000000 in
theorem sp_Q_add_j2 (x10 : Int32) (M11 : Mem) (x12 : Int32) (x15 : Int32) (Q : Mem → Prop) (hQ : Q (f_Q_add_j2_m x10 M11 x12 x15)) : wp_Q_add_j2 x10 M11 x12 x15 Q := by
  unfold wp_Q_add_j2
  unfold f_Q_add_j2_m at hQ
  intro M16 h_; subst h_
  exact hQ
def f_Q_add_j1_m (M0 : Mem) (x2 : Int32) (x10 : Int32) : Mem := let M11 : Mem := mst M0 17 7 (x2 &&& (255 : Int32)); let x12 : Int32 := f_Q_zero_v M11 (x2 &&& (255 : Int32)); (if x2 ≤ (255 : Int32) then (f_Q_add_j2_m x10 M11 x12 (0 : Int32)) else (f_Q_add_j2_m x10 M11 x12 (16 : Int32)))
set_option maxRecDepth 100000 in
set_option maxHeartbeats 4000000 in
theorem sp_Q_add_j1 (M0 : Mem) (x2 : Int32) (x10 : Int32) (Q : Mem → Prop) (hQ : Q (f_Q_add_j1_m M0 x2 x10)) : wp_Q_add_j1 M0 x2 x10 Q := by
  unfold wp_Q_add_j1
  unfold f_Q_add_j1_m at hQ
  intro M11 h_; subst h_
  refine sp_Q_zero _ _ _ ?_
  refine ⟨fun hc => ?_, fun hc => ?_⟩
  · simp only [if_pos hc] at hQ
    exact sp_Q_add_j2 _ _ _ _ _ hQ
  · simp only [if_neg hc] at hQ
    exact sp_Q_add_j2 _ _ _ _ _ hQ
def f_Q_add_m (M0 : Mem) (a1 : Int32) (a2 : Int32) : Mem := let x1 : Int32 := (M0 17 7); let x2 : Int32 := ((x1 + a1) + a2); (if (((x1 &&& (15 : Int32)) + (a1 &&& (15 : Int32))) + a2) ≤ (15 : Int32) then (f_Q_add_j1_m M0 x2 (0 : Int32)) else (f_Q_add_j1_m M0 x2 (32 : Int32)))
set_option maxRecDepth 100000 in
set_option maxHeartbeats 4000000 in
theorem sp_Q_add (M0 : Mem) (a1 : Int32) (a2 : Int32) (Q : Mem → Prop) (hQ : Q (f_Q_add_m M0 a1 a2)) : wp_Q_add M0 a1 a2 Q := by
  unfold wp_Q_add
  unfold f_Q_add_m at hQ
  intro x1 h_; subst h_
  intro x2 h_; subst h_
  refine ⟨fun hc => ?_, fun hc => ?_⟩
  · simp only [if_pos hc] at hQ
    exact sp_Q_add_j1 _ _ _ _ hQ
  · simp only [if_neg hc] at hQ
    exact sp_Q_add_j1 _ _ _ _ hQ
def f_Q_difference_j2_v (M0 : Mem) (x2 : Int32) (x9 : Int32) (x10 : Int32) (x13 : Int32) : Int32 := (x2 &&& (255 : Int32))
def f_Q_difference_j2_m (M0 : Mem) (x2 : Int32) (x9 : Int32) (x10 : Int32) (x13 : Int32) : Mem := let M14 : Mem := mst M0 17 6 (((x10 ||| (64 : Int32)) ||| x9) ||| x13); M14
set_option maxRecDepth 100000 in
set_option maxHeartbeats 4000000 in
theorem sp_Q_difference_j2 (M0 : Mem) (x2 : Int32) (x9 : Int32) (x10 : Int32) (x13 : Int32) (Q : Int32 → Mem → Prop) (hQ : Q (f_Q_difference_j2_v M0 x2 x9 x10 x13) (f_Q_difference_j2_m M0 x2 x9 x10 x13)) : wp_Q_difference_j2 M0 x2 x9 x10 x13 Q := by
  unfold wp_Q_difference_j2
  unfold f_Q_difference_j2_v f_Q_difference_j2_m at hQ
  intro M14 h_; subst h_
  exact hQ
def f_Q_difference_j1_v (M0 : Mem) (x2 : Int32) (x9 : Int32) : Int32 := let x10 : Int32 := f_Q_zero_v M0 (x2 &&& (255 : Int32)); (if 0 ≤ x2 then (f_Q_difference_j2_v M0 x2 x9 x10 (0 : Int32)) else (f_Q_difference_j2_v M0 x2 x9 x10 (16 : Int32)))
def f_Q_difference_j1_m (M0 : Mem) (x2 : Int32) (x9 : Int32) : Mem := let x10 : Int32 := f_Q_zero_v M0 (x2 &&& (255 : Int32)); (if 0 ≤ x2 then (f_Q_difference_j2_m M0 x2 x9 x10 (0 : Int32)) else (f_Q_difference_j2_m M0 x2 x9 x10 (16 : Int32)))
set_option maxRecDepth 100000 in
set_option maxHeartbeats 4000000 in
theorem sp_Q_difference_j1 (M0 : Mem) (x2 : Int32) (x9 : Int32) (Q : Int32 → Mem → Prop) (hQ : Q (f_Q_difference_j1_v M0 x2 x9) (f_Q_difference_j1_m M0 x2 x9)) : wp_Q_difference_j1 M0 x2 x9 Q := by
  unfold wp_Q_difference_j1
  unfold f_Q_difference_j1_v f_Q_difference_j1_m at hQ
  refine sp_Q_zero _ _ _ ?_
  refine ⟨fun hc => ?_, fun hc => ?_⟩
  · simp only [if_pos hc] at hQ
    exact sp_Q_difference_j2 _ _ _ _ _ _ hQ
  · simp only [if_neg hc] at hQ
    exact sp_Q_difference_j2 _ _ _ _ _ _ hQ
def f_Q_difference_v (M0 : Mem) (a1 : Int32) (a2 : Int32) : Int32 := let x1 : Int32 := (M0 17 7); let x2 : Int32 := ((x1 - a1) - a2); (if 0 ≤ (((x1 &&& (15 : Int32)) - (a1 &&& (15 : Int32))) - a2) then (f_Q_difference_j1_v M0 x2 (0 : Int32)) else (f_Q_difference_j1_v M0 x2 (32 : Int32)))
def f_Q_difference_m (M0 : Mem) (a1 : Int32) (a2 : Int32) : Mem := let x1 : Int32 := (M0 17 7); let x2 : Int32 := ((x1 - a1) - a2); (if 0 ≤ (((x1 &&& (15 : Int32)) - (a1 &&& (15 : Int32))) - a2) then (f_Q_difference_j1_m M0 x2 (0 : Int32)) else (f_Q_difference_j1_m M0 x2 (32 : Int32)))
set_option maxRecDepth 100000 in
set_option maxHeartbeats 4000000 in
theorem sp_Q_difference (M0 : Mem) (a1 : Int32) (a2 : Int32) (Q : Int32 → Mem → Prop) (hQ : Q (f_Q_difference_v M0 a1 a2) (f_Q_difference_m M0 a1 a2)) : wp_Q_difference M0 a1 a2 Q := by
  unfold wp_Q_difference
  unfold f_Q_difference_v f_Q_difference_m at hQ
  intro x1 h_; subst h_
  intro x2 h_; subst h_
  refine ⟨fun hc => ?_, fun hc => ?_⟩
  · simp only [if_pos hc] at hQ
    exact sp_Q_difference_j1 _ _ _ _ hQ
  · simp only [if_neg hc] at hQ
    exact sp_Q_difference_j1 _ _ _ _ hQ
def f_Q_setLogic_m (M0 : Mem) (a1 : Int32) (a2 : Int32) : Mem := let M1 : Mem := mst M0 17 7 a1; let x2 : Int32 := f_Q_zero_v M1 a1; let M3 : Mem := mst M1 17 6 (x2 ||| a2); M3
set_option maxRecDepth 100000 in
set_option maxHeartbeats 4000000 in
theorem sp_Q_setLogic (M0 : Mem) (a1 : Int32) (a2 : Int32) (Q : Mem → Prop) (hQ : Q (f_Q_setLogic_m M0 a1 a2)) : wp_Q_setLogic M0 a1 a2 Q := by
  unfold wp_Q_setLogic
  unfold f_Q_setLogic_m at hQ
  intro M1 h_; subst h_
  refine sp_Q_zero _ _ _ ?_
  intro M3 h_; subst h_
  exact hQ
def f_Q_combine_j2_m (M46 : Mem) : Mem := M46
set_option maxRecDepth 100000 in
set_option maxHeartbeats 4000000 in
theorem sp_Q_combine_j2 (M46 : Mem) (Q : Mem → Prop) (hQ : Q (f_Q_combine_j2_m M46)) : wp_Q_combine_j2 M46 Q := by
  unfold wp_Q_combine_j2
  unfold f_Q_combine_j2_m at hQ
  exact hQ
def f_Q_combine_j1_m (M0 : Mem) (a1 : Int32) (a2 : Int32) (x1 : Int32) (x31 : Int32) : Mem := (if (a1 = (0 : Int32)) then let M47 : Mem := f_Q_add_m M0 a2 (0 : Int32); (f_Q_combine_j2_m M47) else (if (a1 = (1 : Int32)) then let M48 : Mem := f_Q_add_m M0 a2 x31; (f_Q_combine_j2_m M48) else (if (a1 = (2 : Int32)) then let x49 : Int32 := f_Q_difference_v M0 a2 (0 : Int32); let M50 : Mem := f_Q_difference_m M0 a2 (0 : Int32); let M51 : Mem := mst M50 17 7 x49; (f_Q_combine_j2_m M51) else (if (a1 = (3 : Int32)) then let x52 : Int32 := f_Q_difference_v M0 a2 x31; let M53 : Mem := f_Q_difference_m M0 a2 x31; let M54 : Mem := mst M53 17 7 x52; (f_Q_combine_j2_m M54) else (if (a1 = (4 : Int32)) then let M55 : Mem := f_Q_setLogic_m M0 (x1 &&& a2) (32 : Int32); (f_Q_combine_j2_m M55) else (if (a1 = (5 : Int32)) then let M56 : Mem := f_Q_setLogic_m M0 (x1 ^^^ a2) (0 : Int32); (f_Q_combine_j2_m M56) else (if (a1 = (6 : Int32)) then let M57 : Mem := f_Q_setLogic_m M0 (x1 ||| a2) (0 : Int32); (f_Q_combine_j2_m M57) else let M59 : Mem := f_Q_difference_m M0 a2 (0 : Int32); (f_Q_combine_j2_m M59))))))))
set_option maxRecDepth 100000 in
set_option maxHeartbeats 4000000 in
theorem sp_Q_combine_j1 (M0 : Mem) (a1 : Int32) (a2 : Int32) (x1 : Int32) (x31 : Int32) (Q : Mem → Prop) (hQ : Q (f_Q_combine_j1_m M0 a1 a2 x1 x31)) : wp_Q_combine_j1 M0 a1 a2 x1 x31 Q := by
  unfold wp_Q_combine_j1
  unfold f_Q_combine_j1_m at hQ
  refine ⟨fun hc => ?_, fun hc => ?_⟩
  · simp only [if_pos hc] at hQ
    refine sp_Q_add _ _ _ _ ?_
    exact sp_Q_combine_j2 _ _ hQ
  · simp only [if_neg hc] at hQ
    refine ⟨fun hc => ?_, fun hc => ?_⟩
    · simp only [if_pos hc] at hQ
      refine sp_Q_add _ _ _ _ ?_
      exact sp_Q_combine_j2 _ _ hQ
    · simp only [if_neg hc] at hQ
      refine ⟨fun hc => ?_, fun hc => ?_⟩
      · simp only [if_pos hc] at hQ
        refine sp_Q_difference _ _ _ _ ?_
        intro M51 h_; subst h_
        exact sp_Q_combine_j2 _ _ hQ
      · simp only [if_neg hc] at hQ
        refine ⟨fun hc => ?_, fun hc => ?_⟩
        · simp only [if_pos hc] at hQ
          refine sp_Q_difference _ _ _ _ ?_
          intro M54 h_; subst h_
          exact sp_Q_combine_j2 _ _ hQ
        · simp only [if_neg hc] at hQ
          refine ⟨fun hc => ?_, fun hc => ?_⟩
          · simp only [if_pos hc] at hQ
            refine sp_Q_setLogic _ _ _ _ ?_
            exact sp_Q_combine_j2 _ _ hQ
          · simp only [if_neg hc] at hQ
            refine ⟨fun hc => ?_, fun hc => ?_⟩
            · simp only [if_pos hc] at hQ
              refine sp_Q_setLogic _ _ _ _ ?_
              exact sp_Q_combine_j2 _ _ hQ
            · simp only [if_neg hc] at hQ
              refine ⟨fun hc => ?_, fun hc => ?_⟩
              · simp only [if_pos hc] at hQ
                refine sp_Q_setLogic _ _ _ _ ?_
                exact sp_Q_combine_j2 _ _ hQ
              · simp only [if_neg hc] at hQ
                refine sp_Q_difference _ _ _ _ ?_
                exact sp_Q_combine_j2 _ _ hQ
def f_Q_combine_m (M0 : Mem) (a1 : Int32) (a2 : Int32) : Mem := let x1 : Int32 := (M0 17 7); (if ((M0 17 6) &&& (16 : Int32)) = 0 then (f_Q_combine_j1_m M0 a1 a2 x1 (0 : Int32)) else (f_Q_combine_j1_m M0 a1 a2 x1 (1 : Int32)))
set_option maxRecDepth 100000 in
set_option maxHeartbeats 4000000 in
theorem sp_Q_combine (M0 : Mem) (a1 : Int32) (a2 : Int32) (Q : Mem → Prop) (hQ : Q (f_Q_combine_m M0 a1 a2)) : wp_Q_combine M0 a1 a2 Q := by
  unfold wp_Q_combine
  unfold f_Q_combine_m at hQ
  intro x1 h_; subst h_
  refine ⟨fun hc => ?_, fun hc => ?_⟩
  · simp only [if_pos hc] at hQ
    exact sp_Q_combine_j1 _ _ _ _ _ _ hQ
  · simp only [if_neg hc] at hQ
    exact sp_Q_combine_j1 _ _ _ _ _ _ hQ
def f_Q_doPrefixed_j1_m (M15 : Mem) : Mem := M15
set_option maxRecDepth 100000 in
set_option maxHeartbeats 4000000 in
theorem sp_Q_doPrefixed_j1 (M15 : Mem) (Q : Mem → Prop) (hQ : Q (f_Q_doPrefixed_j1_m M15)) : wp_Q_doPrefixed_j1 M15 Q := by
  unfold wp_Q_doPrefixed_j1
  unfold f_Q_doPrefixed_j1_m at hQ
  exact hQ
def f_Q_doPrefixed_m (M0 : Mem) : Mem := let x1 : Int32 := f_Q_fetch_v M0; let M2 : Mem := f_Q_fetch_m M0; let x3 : Int32 := ((x1 >>> ((3 : Int32) &&& (31 : Int32))) &&& (7 : Int32)); let x4 : Int32 := (x1 &&& (7 : Int32)); let x5 : Int32 := f_Q_octetAt_v M2 x4; let M6 : Mem := f_Q_octetAt_m M2 x4; (if ((x1 >>> ((6 : Int32) &&& (31 : Int32))) = (0 : Int32)) then let x16 : Int32 := f_Q_shifted_v M6 x3 x5; let M17 : Mem := f_Q_shifted_m M6 x3 x5; let M18 : Mem := f_Q_setOctet_m M17 x4 x16; (f_Q_doPrefixed_j1_m M18) else (if ((x1 >>> ((6 : Int32) &&& (31 : Int32))) = (1 : Int32)) then let x19 : Int32 := f_Q_zero_v M6 (x5 &&& ((1 : Int32) <<< (x3 &&& (31 : Int32)))); let M20 : Mem := mst M6 17 6 ((((M6 17 6) &&& (16 : Int32)) ||| (32 : Int32)) ||| x19); (f_Q_doPrefixed_j1_m M20) else (if ((x1 >>> ((6 : Int32) &&& (31 : Int32))) = (2 : Int32)) then let M21 : Mem := f_Q_setOctet_m M6 x4 (x5 &&& (((1 : Int32) <<< (x3 &&& (31 : Int32))) ^^^ (-1 : Int32))); (f_Q_doPrefixed_j1_m M21) else let M22 : Mem := f_Q_setOctet_m M6 x4 (x5 ||| ((1 : Int32) <<< (x3 &&& (31 : Int32)))); (f_Q_doPrefixed_j1_m M22))))
def ok_Q_doPrefixed (M0 : Mem) : Prop := ok_Q_fetch M0 ∧ (∀ x1 : Int32, x1 = f_Q_fetch_v M0 → ∀ M2 : Mem, M2 = f_Q_fetch_m M0 → ∀ x3 : Int32, x3 = ((x1 >>> ((3 : Int32) &&& (31 : Int32))) &&& (7 : Int32)) → ∀ x4 : Int32, x4 = (x1 &&& (7 : Int32)) → ok_Q_octetAt M2 x4 ∧ (∀ x5 : Int32, x5 = f_Q_octetAt_v M2 x4 → ∀ M6 : Mem, M6 = f_Q_octetAt_m M2 x4 → (((((x1 >>> ((6 : Int32) &&& (31 : Int32))) = (0 : Int32))) → ∀ x16 : Int32, x16 = f_Q_shifted_v M6 x3 x5 → ∀ M17 : Mem, M17 = f_Q_shifted_m M6 x3 x5 → ok_Q_setOctet M17 x4 x16) ∧ ((¬ ((x1 >>> ((6 : Int32) &&& (31 : Int32))) = (0 : Int32))) → (((((x1 >>> ((6 : Int32) &&& (31 : Int32))) = (1 : Int32))) → True) ∧ ((¬ ((x1 >>> ((6 : Int32) &&& (31 : Int32))) = (1 : Int32))) → (((((x1 >>> ((6 : Int32) &&& (31 : Int32))) = (2 : Int32))) → ok_Q_setOctet M6 x4 (x5 &&& (((1 : Int32) <<< (x3 &&& (31 : Int32))) ^^^ (-1 : Int32)))) ∧ ((¬ ((x1 >>> ((6 : Int32) &&& (31 : Int32))) = (2 : Int32))) → ok_Q_setOctet M6 x4 (x5 ||| ((1 : Int32) <<< (x3 &&& (31 : Int32))))))))))))
set_option maxRecDepth 100000 in
set_option maxHeartbeats 4000000 in
theorem sp_Q_doPrefixed (M0 : Mem) (Q : Mem → Prop) (hok : ok_Q_doPrefixed M0) (hQ : Q (f_Q_doPrefixed_m M0)) : wp_Q_doPrefixed M0 Q := by
  unfold wp_Q_doPrefixed
  unfold ok_Q_doPrefixed at hok
  unfold f_Q_doPrefixed_m at hQ
  refine sp_Q_fetch _ _ hok.1 ?_
  have hok := hok.2 _ rfl _ rfl
  intro x3 h_; subst h_
  have hok := hok _ rfl
  intro x4 h_; subst h_
  have hok := hok _ rfl
  refine sp_Q_octetAt _ _ _ hok.1 ?_
  have hok := hok.2 _ rfl _ rfl
  refine ⟨fun hc => ?_, fun hc => ?_⟩
  · simp only [if_pos hc] at hQ
    have hok := hok.1 hc
    refine sp_Q_shifted _ _ _ _ ?_
    have hok := hok _ rfl _ rfl
    refine sp_Q_setOctet _ _ _ _ hok ?_
    exact sp_Q_doPrefixed_j1 _ _ hQ
  · simp only [if_neg hc] at hQ
    have hok := hok.2 hc
    refine ⟨fun hc => ?_, fun hc => ?_⟩
    · simp only [if_pos hc] at hQ
      refine sp_Q_zero _ _ _ ?_
      intro M20 h_; subst h_
      exact sp_Q_doPrefixed_j1 _ _ hQ
    · simp only [if_neg hc] at hQ
      have hok := hok.2 hc
      refine ⟨fun hc => ?_, fun hc => ?_⟩
      · simp only [if_pos hc] at hQ
        have hok := hok.1 hc
        refine sp_Q_setOctet _ _ _ _ hok ?_
        exact sp_Q_doPrefixed_j1 _ _ hQ
      · simp only [if_neg hc] at hQ
        have hok := hok.2 hc
        refine sp_Q_setOctet _ _ _ _ hok ?_
        exact sp_Q_doPrefixed_j1 _ _ hQ
def f_Q_pop_v (M0 : Mem) : Int32 := let x1 : Int32 := f_Y_load_v M0 (((M0 5 7) + (1 : Int32)) &&& (65535 : Int32)); let x2 : Int32 := f_Y_load_v M0 (M0 5 7); let x3 : Int32 := ((x1 <<< ((8 : Int32) &&& (31 : Int32))) ||| x2); x3
def f_Q_pop_m (M0 : Mem) : Mem := let M4 : Mem := mst M0 5 7 (((M0 5 7) + (2 : Int32)) &&& (65535 : Int32)); let M5 : Mem := mst M4 5 10 ((M4 5 10) + (2 : Int32)); M5
def ok_Q_pop (M0 : Mem) : Prop := ok_Y_load M0 (((M0 5 7) + (1 : Int32)) &&& (65535 : Int32)) ∧ (∀ x1 : Int32, x1 = f_Y_load_v M0 (((M0 5 7) + (1 : Int32)) &&& (65535 : Int32)) → ok_Y_load M0 (M0 5 7))
set_option maxRecDepth 100000 in
set_option maxHeartbeats 4000000 in
theorem sp_Q_pop (M0 : Mem) (Q : Int32 → Mem → Prop) (hok : ok_Q_pop M0) (hQ : Q (f_Q_pop_v M0) (f_Q_pop_m M0)) : wp_Q_pop M0 Q := by
  unfold wp_Q_pop
  unfold ok_Q_pop at hok
  unfold f_Q_pop_v f_Q_pop_m at hQ
  refine sp_Y_load _ _ _ hok.1 ?_
  have hok := hok.2 _ rfl
  refine sp_Y_load _ _ _ hok ?_
  intro x3 h_; subst h_
  intro M4 h_; subst h_
  intro M5 h_; subst h_
  exact hQ
def f_Q_returnIf_j1_m (M6 : Mem) : Mem := M6
set_option maxRecDepth 100000 in
set_option maxHeartbeats 4000000 in
theorem sp_Q_returnIf_j1 (M6 : Mem) (Q : Mem → Prop) (hQ : Q (f_Q_returnIf_j1_m M6)) : wp_Q_returnIf_j1 M6 Q := by
  unfold wp_Q_returnIf_j1
  unfold f_Q_returnIf_j1_m at hQ
  exact hQ
def f_Q_returnIf_m (M0 : Mem) (a1 : Int32) : Mem := let M1 : Mem := mst M0 5 10 ((M0 5 10) + (1 : Int32)); (if a1 = 0 then (f_Q_returnIf_j1_m M1) else let x7 : Int32 := f_Q_pop_v M1; let M8 : Mem := f_Q_pop_m M1; let M9 : Mem := f_Q_jump_m M8 (1 : Int32) x7; (f_Q_returnIf_j1_m M9))
def ok_Q_returnIf (M0 : Mem) (a1 : Int32) : Prop := ∀ M1 : Mem, M1 = mst M0 5 10 ((M0 5 10) + (1 : Int32)) → (((a1 = 0) → True) ∧ ((¬ a1 = 0) → ok_Q_pop M1))
set_option maxRecDepth 100000 in
set_option maxHeartbeats 4000000 in
theorem sp_Q_returnIf (M0 : Mem) (a1 : Int32) (Q : Mem → Prop) (hok : ok_Q_returnIf M0 a1) (hQ : Q (f_Q_returnIf_m M0 a1)) : wp_Q_returnIf M0 a1 Q := by
  unfold wp_Q_returnIf
  unfold ok_Q_returnIf at hok
  unfold f_Q_returnIf_m at hQ
  intro M1 h_; subst h_
  have hok := hok _ rfl
  refine ⟨fun hc => ?_, fun hc => ?_⟩
  · simp only [if_pos hc] at hQ
    exact sp_Q_returnIf_j1 _ _ hQ
  · simp only [if_neg hc] at hQ
    have hok := hok.2 hc
    refine sp_Q_pop _ _ hok ?_
    refine sp_Q_jump _ _ _ _ ?_
    exact sp_Q_returnIf_j1 _ _ hQ
def f_Q_addToStackPointer_j3_m (M26 : Mem) (x29 : Int32) : Mem := let M30 : Mem := mst M26 5 10 ((M26 5 10) + x29); M30
set_option maxRecDepth 100000 in
set_option maxHeartbeats 4000000 in
theorem sp_Q_addToStackPointer_j3 (M26 : Mem) (x29 : Int32) (Q : Mem → Prop) (hQ : Q (f_Q_addToStackPointer_j3_m M26 x29)) : wp_Q_addToStackPointer_j3 M26 x29 Q := by
  unfold wp_Q_addToStackPointer_j3
  unfold f_Q_addToStackPointer_j3_m at hQ
  intro M30 h_; subst h_
  exact hQ
def f_Q_addToStackPointer_j2_m (M0 : Mem) (a1 : Int32) (a2 : Int32) (x16 : Int32) (x24 : Int32) : Mem := let M25 : Mem := mst M0 17 6 (x16 ||| x24); let M26 : Mem := f_Q_setPair_m M25 a1 ((M25 5 7) + (a2.toInt8.toInt32)); (if a1 = (3 : Int32) then (f_Q_addToStackPointer_j3_m M26 (2 : Int32)) else (f_Q_addToStackPointer_j3_m M26 (1 : Int32)))
def ok_Q_addToStackPointer_j2 (M0 : Mem) (a1 : Int32) (a2 : Int32) (x16 : Int32) (x24 : Int32) : Prop := ∀ M25 : Mem, M25 = mst M0 17 6 (x16 ||| x24) → ok_Q_setPair M25 a1 ((M25 5 7) + (a2.toInt8.toInt32))
set_option maxRecDepth 100000 in
set_option maxHeartbeats 4000000 in
theorem sp_Q_addToStackPointer_j2 (M0 : Mem) (a1 : Int32) (a2 : Int32) (x16 : Int32) (x24 : Int32) (Q : Mem → Prop) (hok : ok_Q_addToStackPointer_j2 M0 a1 a2 x16 x24) (hQ : Q (f_Q_addToStackPointer_j2_m M0 a1 a2 x16 x24)) : wp_Q_addToStackPointer_j2 M0 a1 a2 x16 x24 Q := by
  unfold wp_Q_addToStackPointer_j2
  unfold ok_Q_addToStackPointer_j2 at hok
  unfold f_Q_addToStackPointer_j2_m at hQ
  intro M25 h_; subst h_
  have hok := hok _ rfl
  refine sp_Q_setPair _ _ _ _ hok ?_
  refine ⟨fun hc => ?_, fun hc => ?_⟩
  · simp only [if_neg hc] at hQ
    exact sp_Q_addToStackPointer_j3 _ _ _ hQ
  · simp only [if_pos hc] at hQ
    exact sp_Q_addToStackPointer_j3 _ _ _ hQ
def f_Q_addToStackPointer_j1_m (M0 : Mem) (a1 : Int32) (a2 : Int32) (x16 : Int32) : Mem := (if (((M0 5 7) &&& (255 : Int32)) + a2) ≤ (255 : Int32) then (f_Q_addToStackPointer_j2_m M0 a1 a2 x16 (0 : Int32)) else (f_Q_addToStackPointer_j2_m M0 a1 a2 x16 (16 : Int32)))
def ok_Q_addToStackPointer_j1 (M0 : Mem) (a1 : Int32) (a2 : Int32) (x16 : Int32) : Prop := ((((((M0 5 7) &&& (255 : Int32)) + a2) ≤ (255 : Int32)) → ok_Q_addToStackPointer_j2 M0 a1 a2 x16 (0 : Int32)) ∧ ((¬ (((M0 5 7) &&& (255 : Int32)) + a2) ≤ (255 : Int32)) → ok_Q_addToStackPointer_j2 M0 a1 a2 x16 (16 : Int32)))
set_option maxRecDepth 100000 in
set_option maxHeartbeats 4000000 in
theorem sp_Q_addToStackPointer_j1 (M0 : Mem) (a1 : Int32) (a2 : Int32) (x16 : Int32) (Q : Mem → Prop) (hok : ok_Q_addToStackPointer_j1 M0 a1 a2 x16) (hQ : Q (f_Q_addToStackPointer_j1_m M0 a1 a2 x16)) : wp_Q_addToStackPointer_j1 M0 a1 a2 x16 Q := by
  unfold wp_Q_addToStackPointer_j1
  unfold ok_Q_addToStackPointer_j1 at hok
  unfold f_Q_addToStackPointer_j1_m at hQ
  refine ⟨fun hc => ?_, fun hc => ?_⟩
  · simp only [if_pos hc] at hQ
    have hok := hok.1 hc
    exact sp_Q_addToStackPointer_j2 _ _ _ _ _ _ hok hQ
  · simp only [if_neg hc] at hQ
    have hok := hok.2 hc
    exact sp_Q_addToStackPointer_j2 _ _ _ _ _ _ hok hQ
def f_Q_addToStackPointer_m (M0 : Mem) (a1 : Int32) (a2 : Int32) : Mem := (if (((M0 5 7) &&& (15 : Int32)) + (a2 &&& (15 : Int32))) ≤ (15 : Int32) then (f_Q_addToStackPointer_j1_m M0 a1 a2 (0 : Int32)) else (f_Q_addToStackPointer_j1_m M0 a1 a2 (32 : Int32)))
def ok_Q_addToStackPointer (M0 : Mem) (a1 : Int32) (a2 : Int32) : Prop := ((((((M0 5 7) &&& (15 : Int32)) + (a2 &&& (15 : Int32))) ≤ (15 : Int32)) → ok_Q_addToStackPointer_j1 M0 a1 a2 (0 : Int32)) ∧ ((¬ (((M0 5 7) &&& (15 : Int32)) + (a2 &&& (15 : Int32))) ≤ (15 : Int32)) → ok_Q_addToStackPointer_j1 M0 a1 a2 (32 : Int32)))
set_option maxRecDepth 100000 in
set_option maxHeartbeats 4000000 in
theorem sp_Q_addToStackPointer (M0 : Mem) (a1 : Int32) (a2 : Int32) (Q : Mem → Prop) (hok : ok_Q_addToStackPointer M0 a1 a2) (hQ : Q (f_Q_addToStackPointer_m M0 a1 a2)) : wp_Q_addToStackPointer M0 a1 a2 Q := by
  unfold wp_Q_addToStackPointer
  unfold ok_Q_addToStackPointer at hok
  unfold f_Q_addToStackPointer_m at hQ
  refine ⟨fun hc => ?_, fun hc => ?_⟩
  · simp only [if_pos hc] at hQ
    have hok := hok.1 hc
    exact sp_Q_addToStackPointer_j1 _ _ _ _ _ hok hQ
  · simp only [if_neg hc] at hQ
    have hok := hok.2 hc
    exact sp_Q_addToStackPointer_j1 _ _ _ _ _ hok hQ
def f_Q_setStackPair_j1_m (M5 : Mem) : Mem := M5
set_option maxRecDepth 100000 in
set_option maxHeartbeats 4000000 in
theorem sp_Q_setStackPair_j1 (M5 : Mem) (Q : Mem → Prop) (hQ : Q (f_Q_setStackPair_j1_m M5)) : wp_Q_setStackPair_j1 M5 Q := by
  unfold wp_Q_setStackPair_j1
  unfold f_Q_setStackPair_j1_m at hQ
  exact hQ
def f_Q_setStackPair_m (M0 : Mem) (a1 : Int32) (a2 : Int32) : Mem := (if a1 = (3 : Int32) then let M7 : Mem := mst M0 17 7 (a2 >>> ((8 : Int32) &&& (31 : Int32))); let M8 : Mem := mst M7 17 6 (a2 &&& (240 : Int32)); (f_Q_setStackPair_j1_m M8) else let M6 : Mem := f_Q_setPair_m M0 a1 a2; (f_Q_setStackPair_j1_m M6))
def ok_Q_setStackPair (M0 : Mem) (a1 : Int32) (a2 : Int32) : Prop := (((¬ a1 = (3 : Int32)) → ok_Q_setPair M0 a1 a2) ∧ ((a1 = (3 : Int32)) → True))
set_option maxRecDepth 100000 in
set_option maxHeartbeats 4000000 in
theorem sp_Q_setStackPair (M0 : Mem) (a1 : Int32) (a2 : Int32) (Q : Mem → Prop) (hok : ok_Q_setStackPair M0 a1 a2) (hQ : Q (f_Q_setStackPair_m M0 a1 a2)) : wp_Q_setStackPair M0 a1 a2 Q := by
  unfold wp_Q_setStackPair
  unfold ok_Q_setStackPair at hok
  unfold f_Q_setStackPair_m at hQ
  refine ⟨fun hc => ?_, fun hc => ?_⟩
  · simp only [if_neg hc] at hQ
    have hok := hok.1 hc
    refine sp_Q_setPair _ _ _ _ hok ?_
    exact sp_Q_setStackPair_j1 _ _ hQ
  · simp only [if_pos hc] at hQ
    intro M7 h_; subst h_
    intro M8 h_; subst h_
    exact sp_Q_setStackPair_j1 _ _ hQ
def f_Q_switchInterrupts_j2_m (M8 : Mem) (x11 : Int32) : Mem := let M12 : Mem := mst M8 5 3 x11; M12
def ok_Q_switchInterrupts_j2 (M8 : Mem) (x11 : Int32) : Prop := isB x11
set_option maxRecDepth 100000 in
set_option maxHeartbeats 4000000 in
theorem sp_Q_switchInterrupts_j2 (M8 : Mem) (x11 : Int32) (Q : Mem → Prop) (hok : ok_Q_switchInterrupts_j2 M8 x11) (hQ : Q (f_Q_switchInterrupts_j2_m M8 x11)) : wp_Q_switchInterrupts_j2 M8 x11 Q := by
  unfold wp_Q_switchInterrupts_j2
  unfold ok_Q_switchInterrupts_j2 at hok
  unfold f_Q_switchInterrupts_j2_m at hQ
  refine ⟨hok, ?_⟩
  intro M12 h_; subst h_
  exact hQ
def f_Q_switchInterrupts_j3_m (M8 : Mem) : Mem := (f_Q_switchInterrupts_j2_m M8 (0 : Int32))
def ok_Q_switchInterrupts_j3 (M8 : Mem) : Prop := ok_Q_switchInterrupts_j2 M8 (0 : Int32)
set_option maxRecDepth 100000 in
set_option maxHeartbeats 4000000 in
theorem sp_Q_switchInterrupts_j3 (M8 : Mem) (Q : Mem → Prop) (hok : ok_Q_switchInterrupts_j3 M8) (hQ : Q (f_Q_switchInterrupts_j3_m M8)) : wp_Q_switchInterrupts_j3 M8 Q := by
  unfold wp_Q_switchInterrupts_j3
  unfold ok_Q_switchInterrupts_j3 at hok
  unfold f_Q_switchInterrupts_j3_m at hQ
  exact sp_Q_switchInterrupts_j2 _ _ _ hok hQ
def f_Q_switchInterrupts_j1_m (M0 : Mem) (a1 : Int32) (x7 : Int32) : Mem := let M8 : Mem := mst M0 5 9 x7; (if (M8 5 3) = 0 then (f_Q_switchInterrupts_j3_m M8) else (if a1 = 0 then (f_Q_switchInterrupts_j3_m M8) else (f_Q_switchInterrupts_j2_m M8 (1 : Int32))))
def ok_Q_switchInterrupts_j1 (M0 : Mem) (a1 : Int32) (x7 : Int32) : Prop := isB x7 ∧ (∀ M8 : Mem, M8 = mst M0 5 9 x7 → ((((M8 5 3) = 0) → ok_Q_switchInterrupts_j3 M8) ∧ ((¬ (M8 5 3) = 0) → (((a1 = 0) → ok_Q_switchInterrupts_j3 M8) ∧ ((¬ a1 = 0) → ok_Q_switchInterrupts_j2 M8 (1 : Int32))))))
set_option maxRecDepth 100000 in
set_option maxHeartbeats 4000000 in
theorem sp_Q_switchInterrupts_j1 (M0 : Mem) (a1 : Int32) (x7 : Int32) (Q : Mem → Prop) (hok : ok_Q_switchInterrupts_j1 M0 a1 x7) (hQ : Q (f_Q_switchInterrupts_j1_m M0 a1 x7)) : wp_Q_switchInterrupts_j1 M0 a1 x7 Q := by
  unfold wp_Q_switchInterrupts_j1
  unfold ok_Q_switchInterrupts_j1 at hok
  unfold f_Q_switchInterrupts_j1_m at hQ
  refine ⟨hok.1, ?_⟩
  have hok := hok.2
  intro M8 h_; subst h_
  have hok := hok _ rfl
  refine ⟨fun hc => ?_, fun hc => ?_⟩
  · simp only [if_pos hc] at hQ
    have hok := hok.1 hc
    exact sp_Q_switchInterrupts_j3 _ _ hok hQ
  · simp only [if_neg hc] at hQ
    have hok := hok.2 hc
    refine ⟨fun hc => ?_, fun hc => ?_⟩
    · simp only [if_pos hc] at hQ
      have hok := hok.1 hc
      exact sp_Q_switchInterrupts_j3 _ _ hok hQ
    · simp only [if_neg hc] at hQ
      have hok := hok.2 hc
      exact sp_Q_switchInterrupts_j2 _ _ _ hok hQ
def f_Q_switchInterrupts_j4_m (M0 : Mem) (a1 : Int32) : Mem := (f_Q_switchInterrupts_j1_m M0 a1 (0 : Int32))
def ok_Q_switchInterrupts_j4 (M0 : Mem) (a1 : Int32) : Prop := ok_Q_switchInterrupts_j1 M0 a1 (0 : Int32)
set_option maxRecDepth 100000 in
set_option maxHeartbeats 4000000 in
theorem sp_Q_switchInterrupts_j4 (M0 : Mem) (a1 : Int32) (Q : Mem → Prop) (hok : ok_Q_switchInterrupts_j4 M0 a1) (hQ : Q (f_Q_switchInterrupts_j4_m M0 a1)) : wp_Q_switchInterrupts_j4 M0 a1 Q := by
  unfold wp_Q_switchInterrupts_j4
  unfold ok_Q_switchInterrupts_j4 at hok
  unfold f_Q_switchInterrupts_j4_m at hQ
  exact sp_Q_switchInterrupts_j1 _ _ _ _ hok hQ
def f_Q_switchInterrupts_m (M0 : Mem) (a1 : Int32) : Mem := (if a1 = 0 then (f_Q_switchInterrupts_j4_m M0 a1) else (if (M0 5 3) = 0 then (f_Q_switchInterrupts_j1_m M0 a1 (1 : Int32)) else (f_Q_switchInterrupts_j4_m M0 a1)))
def ok_Q_switchInterrupts (M0 : Mem) (a1 : Int32) : Prop := (((a1 = 0) → ok_Q_switchInterrupts_j4 M0 a1) ∧ ((¬ a1 = 0) → (((¬ (M0 5 3) = 0) → ok_Q_switchInterrupts_j4 M0 a1) ∧ (((M0 5 3) = 0) → ok_Q_switchInterrupts_j1 M0 a1 (1 : Int32)))))
set_option maxRecDepth 100000 in
set_option maxHeartbeats 4000000 in
theorem sp_Q_switchInterrupts (M0 : Mem) (a1 : Int32) (Q : Mem → Prop) (hok : ok_Q_switchInterrupts M0 a1) (hQ : Q (f_Q_switchInterrupts_m M0 a1)) : wp_Q_switchInterrupts M0 a1 Q := by
  unfold wp_Q_switchInterrupts
  unfold ok_Q_switchInterrupts at hok
  unfold f_Q_switchInterrupts_m at hQ
  refine ⟨fun hc => ?_, fun hc => ?_⟩
  · simp only [if_pos hc] at hQ
    have hok := hok.1 hc
    exact sp_Q_switchInterrupts_j4 _ _ _ hok hQ
  · simp only [if_neg hc] at hQ
    have hok := hok.2 hc
    refine ⟨fun hc => ?_, fun hc => ?_⟩
    · simp only [if_neg hc] at hQ
      have hok := hok.1 hc
      exact sp_Q_switchInterrupts_j4 _ _ _ hok hQ
    · simp only [if_pos hc] at hQ
      have hok := hok.2 hc
      exact sp_Q_switchInterrupts_j1 _ _ _ _ hok hQ
def f_Q_doHigh_j2_m (M183 : Mem) : Mem := M183
set_option maxRecDepth 100000 in
set_option maxHeartbeats 4000000 in
theorem sp_Q_doHigh_j2 (M183 : Mem) (Q : Mem → Prop) (hQ : Q (f_Q_doHigh_j2_m M183)) : wp_Q_doHigh_j2 M183 Q := by
  unfold wp_Q_doHigh_j2
  unfold f_Q_doHigh_j2_m at hQ
  exact hQ
def f_Q_doHigh_j3_m (x184 : Int32) (M185 : Mem) (x188 : Int32) : Mem := let M189 : Mem := f_Q_copyA_m M185 ((65280 : Int32) ||| x184) x188; (f_Q_doHigh_j2_m M189)
def ok_Q_doHigh_j3 (x184 : Int32) (M185 : Mem) (x188 : Int32) : Prop := ok_Q_copyA M185 ((65280 : Int32) ||| x184) x188
set_option maxRecDepth 100000 in
set_option maxHeartbeats 4000000 in
theorem sp_Q_doHigh_j3 (x184 : Int32) (M185 : Mem) (x188 : Int32) (Q : Mem → Prop) (hok : ok_Q_doHigh_j3 x184 M185 x188) (hQ : Q (f_Q_doHigh_j3_m x184 M185 x188)) : wp_Q_doHigh_j3 x184 M185 x188 Q := by
  unfold wp_Q_doHigh_j3
  unfold ok_Q_doHigh_j3 at hok
  unfold f_Q_doHigh_j3_m at hQ
  refine sp_Q_copyA _ _ _ _ hok ?_
  exact sp_Q_doHigh_j2 _ _ hQ
def f_Q_doHigh_j4_m (M0 : Mem) (x194 : Int32) : Mem := let x195 : Int32 := f_Q_fetch_v M0; let M196 : Mem := f_Q_fetch_m M0; let M197 : Mem := f_Q_addToStackPointer_m M196 x194 x195; (f_Q_doHigh_j2_m M197)
def ok_Q_doHigh_j4 (M0 : Mem) (x194 : Int32) : Prop := ok_Q_fetch M0 ∧ (∀ x195 : Int32, x195 = f_Q_fetch_v M0 → ∀ M196 : Mem, M196 = f_Q_fetch_m M0 → ok_Q_addToStackPointer M196 x194 x195)
set_option maxRecDepth 100000 in
set_option maxHeartbeats 4000000 in
theorem sp_Q_doHigh_j4 (M0 : Mem) (x194 : Int32) (Q : Mem → Prop) (hok : ok_Q_doHigh_j4 M0 x194) (hQ : Q (f_Q_doHigh_j4_m M0 x194)) : wp_Q_doHigh_j4 M0 x194 Q := by
  unfold wp_Q_doHigh_j4
  unfold ok_Q_doHigh_j4 at hok
  unfold f_Q_doHigh_j4_m at hQ
  refine sp_Q_fetch _ _ hok.1 ?_
  have hok := hok.2 _ rfl _ rfl
  refine sp_Q_addToStackPointer _ _ _ _ hok ?_
  exact sp_Q_doHigh_j2 _ _ hQ
def f_Q_doHigh_j5_m (M207 : Mem) (x210 : Int32) : Mem := let M211 : Mem := mst M207 5 3 x210; (f_Q_doHigh_j2_m M211)
def ok_Q_doHigh_j5 (M207 : Mem) (x210 : Int32) : Prop := isB x210
set_option maxRecDepth 100000 in
set_option maxHeartbeats 4000000 in
theorem sp_Q_doHigh_j5 (M207 : Mem) (x210 : Int32) (Q : Mem → Prop) (hok : ok_Q_doHigh_j5 M207 x210) (hQ : Q (f_Q_doHigh_j5_m M207 x210)) : wp_Q_doHigh_j5 M207 x210 Q := by
  unfold wp_Q_doHigh_j5
  unfold ok_Q_doHigh_j5 at hok
  unfold f_Q_doHigh_j5_m at hQ
  refine ⟨hok, ?_⟩
  intro M211 h_; subst h_
  exact sp_Q_doHigh_j2 _ _ hQ
def f_Q_doHigh_j6_m (M207 : Mem) : Mem := (f_Q_doHigh_j5_m M207 (1 : Int32))
def ok_Q_doHigh_j6 (M207 : Mem) : Prop := ok_Q_doHigh_j5 M207 (1 : Int32)
set_option maxRecDepth 100000 in
set_option maxHeartbeats 4000000 in
theorem sp_Q_doHigh_j6 (M207 : Mem) (Q : Mem → Prop) (hok : ok_Q_doHigh_j6 M207) (hQ : Q (f_Q_doHigh_j6_m M207)) : wp_Q_doHigh_j6 M207 Q := by
  unfold wp_Q_doHigh_j6
  unfold ok_Q_doHigh_j6 at hok
  unfold f_Q_doHigh_j6_m at hQ
  exact sp_Q_doHigh_j5 _ _ _ hok hQ
def f_Q_doHigh_j8_m (x223 : Int32) (M224 : Mem) (x227 : Int32) : Mem := let M228 : Mem := f_Q_copyA_m M224 x223 x227; (f_Q_doHigh_j2_m M228)
def ok_Q_doHigh_j8 (x223 : Int32) (M224 : Mem) (x227 : Int32) : Prop := ok_Q_copyA M224 x223 x227
set_option maxRecDepth 100000 in
set_option maxHeartbeats 4000000 in
theorem sp_Q_doHigh_j8 (x223 : Int32) (M224 : Mem) (x227 : Int32) (Q : Mem → Prop) (hok : ok_Q_doHigh_j8 x223 M224 x227) (hQ : Q (f_Q_doHigh_j8_m x223 M224 x227)) : wp_Q_doHigh_j8 x223 M224 x227 Q := by
  unfold wp_Q_doHigh_j8
  unfold ok_Q_doHigh_j8 at hok
  unfold f_Q_doHigh_j8_m at hQ
  refine sp_Q_copyA _ _ _ _ hok ?_
  exact sp_Q_doHigh_j2 _ _ hQ
def f_Q_doHigh_j7_m (a1 : Int32) (x223 : Int32) (M224 : Mem) : Mem := (if a1 < (6 : Int32) then (f_Q_doHigh_j8_m x223 M224 (0 : Int32)) else (f_Q_doHigh_j8_m x223 M224 (1 : Int32)))
def ok_Q_doHigh_j7 (a1 : Int32) (x223 : Int32) (M224 : Mem) : Prop := (((a1 < (6 : Int32)) → ok_Q_doHigh_j8 x223 M224 (0 : Int32)) ∧ ((¬ a1 < (6 : Int32)) → ok_Q_doHigh_j8 x223 M224 (1 : Int32)))
set_option maxRecDepth 100000 in
set_option maxHeartbeats 4000000 in
theorem sp_Q_doHigh_j7 (a1 : Int32) (x223 : Int32) (M224 : Mem) (Q : Mem → Prop) (hok : ok_Q_doHigh_j7 a1 x223 M224) (hQ : Q (f_Q_doHigh_j7_m a1 x223 M224)) : wp_Q_doHigh_j7 a1 x223 M224 Q := by
  unfold wp_Q_doHigh_j7
  unfold ok_Q_doHigh_j7 at hok
  unfold f_Q_doHigh_j7_m at hQ
  refine ⟨fun hc => ?_, fun hc => ?_⟩
  · simp only [if_pos hc] at hQ
    have hok := hok.1 hc
    exact sp_Q_doHigh_j8 _ _ _ _ hok hQ
  · simp only [if_neg hc] at hQ
    have hok := hok.2 hc
    exact sp_Q_doHigh_j8 _ _ _ _ hok hQ
def f_Q_doHigh_j9_m (M0 : Mem) (x238 : Int32) : Mem := let M239 : Mem := f_Q_switchInterrupts_m M0 x238; (f_Q_doHigh_j2_m M239)
def ok_Q_doHigh_j9 (M0 : Mem) (x238 : Int32) : Prop := ok_Q_switchInterrupts M0 x238
set_option maxRecDepth 100000 in
set_option maxHeartbeats 4000000 in
theorem sp_Q_doHigh_j9 (M0 : Mem) (x238 : Int32) (Q : Mem → Prop) (hok : ok_Q_doHigh_j9 M0 x238) (hQ : Q (f_Q_doHigh_j9_m M0 x238)) : wp_Q_doHigh_j9 M0 x238 Q := by
  unfold wp_Q_doHigh_j9
  unfold ok_Q_doHigh_j9 at hok
  unfold f_Q_doHigh_j9_m at hQ
  refine sp_Q_switchInterrupts _ _ _ hok ?_
  exact sp_Q_doHigh_j2 _ _ hQ
def f_Q_doHigh_j1_m (M0 : Mem) (a1 : Int32) (a2 : Int32) (x122 : Int32) : Mem := (if (a2 = (0 : Int32)) then (if (4 : Int32) ≤ a1 then (if x122 = 0 then let x184 : Int32 := f_Q_fetch_v M0; let M185 : Mem := f_Q_fetch_m M0; (if a1 = (6 : Int32) then (f_Q_doHigh_j3_m x184 M185 (1 : Int32)) else (f_Q_doHigh_j3_m x184 M185 (0 : Int32))) else (if a1 = (5 : Int32) then (f_Q_doHigh_j4_m M0 (3 : Int32)) else (f_Q_doHigh_j4_m M0 (2 : Int32)))) else let x198 : Int32 := f_Q_holds_v M0 a1; let M199 : Mem := f_Q_returnIf_m M0 x198; (f_Q_doHigh_j2_m M199)) else (if (a2 = (1 : Int32)) then (if x122 = 0 then let x212 : Int32 := f_Q_pop_v M0; let M213 : Mem := f_Q_pop_m M0; let M214 : Mem := f_Q_setStackPair_m M213 (a1 >>> ((1 : Int32) &&& (31 : Int32))) x212; (f_Q_doHigh_j2_m M214) else (if (4 : Int32) ≤ a1 then (if a1 = (5 : Int32) then let x203 : Int32 := f_Q_pair_v M0 (2 : Int32); let M204 : Mem := mst M0 5 8 x203; (f_Q_doHigh_j2_m M204) else let x200 : Int32 := f_Q_pair_v M0 (2 : Int32); let M201 : Mem := mst M0 5 7 x200; let M202 : Mem := mst M201 5 10 ((M201 5 10) + (1 : Int32)); (f_Q_doHigh_j2_m M202)) else let x205 : Int32 := f_Q_pop_v M0; let M206 : Mem := f_Q_pop_m M0; let M207 : Mem := f_Q_jump_m M206 (1 : Int32) x205; (if (M207 5 3) = 0 then (if a1 = (3 : Int32) then (f_Q_doHigh_j6_m M207) else (f_Q_doHigh_j5_m M207 (0 : Int32))) else (f_Q_doHigh_j6_m M207)))) else (if (a2 = (2 : Int32)) then (if (4 : Int32) ≤ a1 then (if x122 = 0 then (f_Q_doHigh_j7_m a1 ((65280 : Int32) ||| (M0 17 1)) M0) else let x229 : Int32 := f_Q_fetchWord_v M0; let M230 : Mem := f_Q_fetchWord_m M0; (f_Q_doHigh_j7_m a1 x229 M230)) else let x231 : Int32 := f_Q_holds_v M0 a1; let x232 : Int32 := f_Q_fetchWord_v M0; let M233 : Mem := f_Q_fetchWord_m M0; let M234 : Mem := f_Q_jump_m M233 x231 x232; (f_Q_doHigh_j2_m M234)) else (if a1 = 0 then let x240 : Int32 := f_Q_fetchWord_v M0; let M241 : Mem := f_Q_fetchWord_m M0; let M242 : Mem := f_Q_jump_m M241 (1 : Int32) x240; (f_Q_doHigh_j2_m M242) else (if a1 < (6 : Int32) then let M235 : Mem := mst M0 5 5 (1 : Int32); (f_Q_doHigh_j2_m M235) else (if a1 = (7 : Int32) then (f_Q_doHigh_j9_m M0 (1 : Int32)) else (f_Q_doHigh_j9_m M0 (0 : Int32))))))))
def ok_Q_doHigh_j1 (M0 : Mem) (a1 : Int32) (a2 : Int32) (x122 : Int32) : Prop := ((((a2 = (0 : Int32))) → ((((4 : Int32) ≤ a1) → (((x122 = 0) → ok_Q_fetch M0 ∧ (∀ x184 : Int32, x184 = f_Q_fetch_v M0 → ∀ M185 : Mem, M185 = f_Q_fetch_m M0 → (((¬ a1 = (6 : Int32)) → ok_Q_doHigh_j3 x184 M185 (0 : Int32)) ∧ ((a1 = (6 : Int32)) → ok_Q_doHigh_j3 x184 M185 (1 : Int32))))) ∧ ((¬ x122 = 0) → (((¬ a1 = (5 : Int32)) → ok_Q_doHigh_j4 M0 (2 : Int32)) ∧ ((a1 = (5 : Int32)) → ok_Q_doHigh_j4 M0 (3 : Int32)))))) ∧ ((¬ (4 : Int32) ≤ a1) → ok_Q_holds M0 a1 ∧ (∀ x198 : Int32, x198 = f_Q_holds_v M0 a1 → ok_Q_returnIf M0 x198)))) ∧ ((¬ (a2 = (0 : Int32))) → ((((a2 = (1 : Int32))) → (((¬ x122 = 0) → ((((4 : Int32) ≤ a1) → (((¬ a1 = (5 : Int32)) → ok_Q_pair M0 (2 : Int32)) ∧ ((a1 = (5 : Int32)) → ok_Q_pair M0 (2 : Int32)))) ∧ ((¬ (4 : Int32) ≤ a1) → ok_Q_pop M0 ∧ (∀ x205 : Int32, x205 = f_Q_pop_v M0 → ∀ M206 : Mem, M206 = f_Q_pop_m M0 → ∀ M207 : Mem, M207 = f_Q_jump_m M206 (1 : Int32) x205 → (((¬ (M207 5 3) = 0) → ok_Q_doHigh_j6 M207) ∧ (((M207 5 3) = 0) → (((¬ a1 = (3 : Int32)) → ok_Q_doHigh_j5 M207 (0 : Int32)) ∧ ((a1 = (3 : Int32)) → ok_Q_doHigh_j6 M207)))))))) ∧ ((x122 = 0) → ok_Q_pop M0 ∧ (∀ x212 : Int32, x212 = f_Q_pop_v M0 → ∀ M213 : Mem, M213 = f_Q_pop_m M0 → ok_Q_setStackPair M213 (a1 >>> ((1 : Int32) &&& (31 : Int32))) x212)))) ∧ ((¬ (a2 = (1 : Int32))) → ((((a2 = (2 : Int32))) → ((((4 : Int32) ≤ a1) → (((x122 = 0) → ok_Q_doHigh_j7 a1 ((65280 : Int32) ||| (M0 17 1)) M0) ∧ ((¬ x122 = 0) → ok_Q_fetchWord M0 ∧ (∀ x229 : Int32, x229 = f_Q_fetchWord_v M0 → ∀ M230 : Mem, M230 = f_Q_fetchWord_m M0 → ok_Q_doHigh_j7 a1 x229 M230)))) ∧ ((¬ (4 : Int32) ≤ a1) → ok_Q_holds M0 a1 ∧ (∀ x231 : Int32, x231 = f_Q_holds_v M0 a1 → ok_Q_fetchWord M0)))) ∧ ((¬ (a2 = (2 : Int32))) → (((¬ a1 = 0) → (((a1 < (6 : Int32)) → True) ∧ ((¬ a1 < (6 : Int32)) → (((¬ a1 = (7 : Int32)) → ok_Q_doHigh_j9 M0 (0 : Int32)) ∧ ((a1 = (7 : Int32)) → ok_Q_doHigh_j9 M0 (1 : Int32)))))) ∧ ((a1 = 0) → ok_Q_fetchWord M0))))))))
set_option maxRecDepth 100000 in
set_option maxHeartbeats 4000000 in
theorem sp_Q_doHigh_j1 (M0 : Mem) (a1 : Int32) (a2 : Int32) (x122 : Int32) (Q : Mem → Prop) (hok : ok_Q_doHigh_j1 M0 a1 a2 x122) (hQ : Q (f_Q_doHigh_j1_m M0 a1 a2 x122)) : wp_Q_doHigh_j1 M0 a1 a2 x122 Q := by
  unfold wp_Q_doHigh_j1
  unfold ok_Q_doHigh_j1 at hok
  unfold f_Q_doHigh_j1_m at hQ
  refine ⟨fun hc => ?_, fun hc => ?_⟩
  · simp only [if_pos hc] at hQ
    have hok := hok.1 hc
    refine ⟨fun hc => ?_, fun hc => ?_⟩
    · simp only [if_pos hc] at hQ
      have hok := hok.1 hc
      refine ⟨fun hc => ?_, fun hc => ?_⟩
      · simp only [if_pos hc] at hQ
        have hok := hok.1 hc
        refine sp_Q_fetch _ _ hok.1 ?_
        have hok := hok.2 _ rfl _ rfl
        refine ⟨fun hc => ?_, fun hc => ?_⟩
        · simp only [if_neg hc] at hQ
          have hok := hok.1 hc
          exact sp_Q_doHigh_j3 _ _ _ _ hok hQ
        · simp only [if_pos hc] at hQ
          have hok := hok.2 hc
          exact sp_Q_doHigh_j3 _ _ _ _ hok hQ
      · simp only [if_neg hc] at hQ
        have hok := hok.2 hc
        refine ⟨fun hc => ?_, fun hc => ?_⟩
        · simp only [if_neg hc] at hQ
          have hok := hok.1 hc
          exact sp_Q_doHigh_j4 _ _ _ hok hQ
        · simp only [if_pos hc] at hQ
          have hok := hok.2 hc
          exact sp_Q_doHigh_j4 _ _ _ hok hQ
    · simp only [if_neg hc] at hQ
      have hok := hok.2 hc
      refine sp_Q_holds _ _ _ hok.1 ?_
      have hok := hok.2 _ rfl
      refine sp_Q_returnIf _ _ _ hok ?_
      exact sp_Q_doHigh_j2 _ _ hQ
  · simp only [if_neg hc] at hQ
    have hok := hok.2 hc
    refine ⟨fun hc => ?_, fun hc => ?_⟩
    · simp only [if_pos hc] at hQ
      have hok := hok.1 hc
      refine ⟨fun hc => ?_, fun hc => ?_⟩
      · simp only [if_neg hc] at hQ
        have hok := hok.1 hc
        refine ⟨fun hc => ?_, fun hc => ?_⟩
        · simp only [if_pos hc] at hQ
          have hok := hok.1 hc
          refine ⟨fun hc => ?_, fun hc => ?_⟩
          · simp only [if_neg hc] at hQ
            have hok := hok.1 hc
            refine sp_Q_pair _ _ _ hok ?_
            intro M201 h_; subst h_
            intro M202 h_; subst h_
            exact sp_Q_doHigh_j2 _ _ hQ
          · simp only [if_pos hc] at hQ
            have hok := hok.2 hc
            refine sp_Q_pair _ _ _ hok ?_
            intro M204 h_; subst h_
            exact sp_Q_doHigh_j2 _ _ hQ
        · simp only [if_neg hc] at hQ
          have hok := hok.2 hc
          refine sp_Q_pop _ _ hok.1 ?_
          have hok := hok.2 _ rfl _ rfl
          refine sp_Q_jump _ _ _ _ ?_
          have hok := hok _ rfl
          refine ⟨fun hc => ?_, fun hc => ?_⟩
          · simp only [if_neg hc] at hQ
            have hok := hok.1 hc
            exact sp_Q_doHigh_j6 _ _ hok hQ
          · simp only [if_pos hc] at hQ
            have hok := hok.2 hc
            refine ⟨fun hc => ?_, fun hc => ?_⟩
            · simp only [if_neg hc] at hQ
              have hok := hok.1 hc
              exact sp_Q_doHigh_j5 _ _ _ hok hQ
            · simp only [if_pos hc] at hQ
              have hok := hok.2 hc
              exact sp_Q_doHigh_j6 _ _ hok hQ
      · simp only [if_pos hc] at hQ
        have hok := hok.2 hc
        refine sp_Q_pop _ _ hok.1 ?_
        have hok := hok.2 _ rfl _ rfl
        refine sp_Q_setStackPair _ _ _ _ hok ?_
        exact sp_Q_doHigh_j2 _ _ hQ
    · simp only [if_neg hc] at hQ
      have hok := hok.2 hc
      refine ⟨fun hc => ?_, fun hc => ?_⟩
      · simp only [if_pos hc] at hQ
        have hok := hok.1 hc
        refine ⟨fun hc => ?_, fun hc => ?_⟩
        · simp only [if_pos hc] at hQ
          have hok := hok.1 hc
          refine ⟨fun hc => ?_, fun hc => ?_⟩
          · simp only [if_pos hc] at hQ
            have hok := hok.1 hc
            exact sp_Q_doHigh_j7 _ _ _ _ hok hQ
          · simp only [if_neg hc] at hQ
            have hok := hok.2 hc
            refine sp_Q_fetchWord _ _ hok.1 ?_
            have hok := hok.2 _ rfl _ rfl
            exact sp_Q_doHigh_j7 _ _ _ _ hok hQ
        · simp only [if_neg hc] at hQ
          have hok := hok.2 hc
          refine sp_Q_holds _ _ _ hok.1 ?_
          have hok := hok.2 _ rfl
          refine sp_Q_fetchWord _ _ hok ?_
          refine sp_Q_jump _ _ _ _ ?_
          exact sp_Q_doHigh_j2 _ _ hQ
      · simp only [if_neg hc] at hQ
        have hok := hok.2 hc
        refine ⟨fun hc => ?_, fun hc => ?_⟩
        · simp only [if_neg hc] at hQ
          have hok := hok.1 hc
          refine ⟨fun hc => ?_, fun hc => ?_⟩
          · simp only [if_pos hc] at hQ
            intro M235 h_; subst h_
            exact sp_Q_doHigh_j2 _ _ hQ
          · simp only [if_neg hc] at hQ
            have hok := hok.2 hc
            refine ⟨fun hc => ?_, fun hc => ?_⟩
            · simp only [if_neg hc] at hQ
              have hok := hok.1 hc
              exact sp_Q_doHigh_j9 _ _ _ hok hQ
            · simp only [if_pos hc] at hQ
              have hok := hok.2 hc
              exact sp_Q_doHigh_j9 _ _ _ hok hQ
        · simp only [if_pos hc] at hQ
          have hok := hok.2 hc
          refine sp_Q_fetchWord _ _ hok ?_
          refine sp_Q_jump _ _ _ _ ?_
          exact sp_Q_doHigh_j2 _ _ hQ
def f_Q_doHigh_m (M0 : Mem) (a1 : Int32) (a2 : Int32) : Mem := (if (a1 &&& (1 : Int32)) = 0 then (f_Q_doHigh_j1_m M0 a1 a2 (0 : Int32)) else (f_Q_doHigh_j1_m M0 a1 a2 (1 : Int32)))
def ok_Q_doHigh (M0 : Mem) (a1 : Int32) (a2 : Int32) : Prop := ((((a1 &&& (1 : Int32)) = 0) → ok_Q_doHigh_j1 M0 a1 a2 (0 : Int32)) ∧ ((¬ (a1 &&& (1 : Int32)) = 0) → ok_Q_doHigh_j1 M0 a1 a2 (1 : Int32)))
set_option maxRecDepth 100000 in
set_option maxHeartbeats 4000000 in
theorem sp_Q_doHigh (M0 : Mem) (a1 : Int32) (a2 : Int32) (Q : Mem → Prop) (hok : ok_Q_doHigh M0 a1 a2) (hQ : Q (f_Q_doHigh_m M0 a1 a2)) : wp_Q_doHigh M0 a1 a2 Q := by
  unfold wp_Q_doHigh
  unfold ok_Q_doHigh at hok
  unfold f_Q_doHigh_m at hQ
  refine ⟨fun hc => ?_, fun hc => ?_⟩
  · simp only [if_pos hc] at hQ
    have hok := hok.1 hc
    exact sp_Q_doHigh_j1 _ _ _ _ _ hok hQ
  · simp only [if_neg hc] at hQ
    have hok := hok.2 hc
    exact sp_Q_doHigh_j1 _ _ _ _ _ hok hQ
