def f_R_controls_j1_m (M0 : Mem) : Mem := M0
set_option maxRecDepth 100000 in
set_option maxHeartbeats 4000000 in
theorem sp_R_controls_j1 (M0 : Mem) (Q : Mem → Prop) (hQ : Q (f_R_controls_j1_m M0)) : wp_R_controls_j1 M0 Q := by
  unfold wp_R_controls_j1
  unfold f_R_controls_j1_m at hQ
  exact hQ
def f_R_controls_j2_m (M61 : Mem) : Mem := M61
set_option maxRecDepth 100000 in
set_option maxHeartbeats 4000000 in
theorem sp_R_controls_j2 (M61 : Mem) (Q : Mem → Prop) (hQ : Q (f_R_controls_j2_m M61)) : wp_R_controls_j2 M61 Q := by
  unfold wp_R_controls_j2
  unfold f_R_controls_j2_m at hQ
  exact hQ
def f_R_controls_j3_m (M0 : Mem) (x69 : Int32) : Mem := let M70 : Mem := mst M0 0 11 x69; (f_R_controls_j2_m M70)
set_option maxRecDepth 100000 in
set_option maxHeartbeats 4000000 in
theorem sp_R_controls_j3 (M0 : Mem) (x69 : Int32) (Q : Mem → Prop) (hQ : Q (f_R_controls_j3_m M0 x69)) : wp_R_controls_j3 M0 x69 Q := by
  unfold wp_R_controls_j3
  unfold f_R_controls_j3_m at hQ
  intro M70 h_; subst h_
  exact sp_R_controls_j2 _ _ hQ
def f_R_controls_j4_m (M0 : Mem) (x73 : Int32) : Mem := let M74 : Mem := mst M0 0 9 x73; (f_R_controls_j2_m M74)
def ok_R_controls_j4 (M0 : Mem) (x73 : Int32) : Prop := isB x73
set_option maxRecDepth 100000 in
set_option maxHeartbeats 4000000 in
theorem sp_R_controls_j4 (M0 : Mem) (x73 : Int32) (Q : Mem → Prop) (hok : ok_R_controls_j4 M0 x73) (hQ : Q (f_R_controls_j4_m M0 x73)) : wp_R_controls_j4 M0 x73 Q := by
  unfold wp_R_controls_j4
  unfold ok_R_controls_j4 at hok
  unfold f_R_controls_j4_m at hQ
  refine ⟨hok, ?_⟩
  intro M74 h_; subst h_
  exact sp_R_controls_j2 _ _ hQ
def f_R_controls_j5_m (M84 : Mem) : Mem := M84
set_option maxRecDepth 100000 in
set_option maxHeartbeats 4000000 in
theorem sp_R_controls_j5 (M84 : Mem) (Q : Mem → Prop) (hQ : Q (f_R_controls_j5_m M84)) : wp_R_controls_j5 M84 Q := by
  unfold wp_R_controls_j5
  unfold f_R_controls_j5_m at hQ
  exact hQ
def f_R_controls_j6_m (M0 : Mem) (x87 : Int32) : Mem := let M88 : Mem := mst M0 0 16 (x87 - x87 / (8 : Int32) * (8 : Int32)); (f_R_controls_j5_m M88)
set_option maxRecDepth 100000 in
set_option maxHeartbeats 4000000 in
theorem sp_R_controls_j6 (M0 : Mem) (x87 : Int32) (Q : Mem → Prop) (hQ : Q (f_R_controls_j6_m M0 x87)) : wp_R_controls_j6 M0 x87 Q := by
  unfold wp_R_controls_j6
  unfold f_R_controls_j6_m at hQ
  intro M88 h_; subst h_
  exact sp_R_controls_j5 _ _ hQ
def f_R_controls_j7_m (M0 : Mem) (x91 : Int32) : Mem := let M92 : Mem := mst M0 0 9 x91; (f_R_controls_j5_m M92)
def ok_R_controls_j7 (M0 : Mem) (x91 : Int32) : Prop := isB x91
set_option maxRecDepth 100000 in
set_option maxHeartbeats 4000000 in
theorem sp_R_controls_j7 (M0 : Mem) (x91 : Int32) (Q : Mem → Prop) (hok : ok_R_controls_j7 M0 x91) (hQ : Q (f_R_controls_j7_m M0 x91)) : wp_R_controls_j7 M0 x91 Q := by
  unfold wp_R_controls_j7
  unfold ok_R_controls_j7 at hok
  unfold f_R_controls_j7_m at hQ
  refine ⟨hok, ?_⟩
  intro M92 h_; subst h_
  exact sp_R_controls_j5 _ _ hQ
def f_R_controls_m (M0 : Mem) (a1 : Int32) (a2 : Int32) : Mem := (if (M0 0 8) = 0 then (f_R_controls_j1_m M0) else (if (M0 0 10) = 0 then (f_R_controls_j1_m M0) else (if (M0 0 10) = (2 : Int32) then (if a1 < (16384 : Int32) then (if (a1 &&& (256 : Int32)) = 0 then (if (a2 &&& (15 : Int32)) = (10 : Int32) then (f_R_controls_j7_m M0 (1 : Int32)) else (f_R_controls_j7_m M0 (0 : Int32))) else (if (a2 &&& (15 : Int32)) = 0 then (f_R_controls_j6_m M0 (1 : Int32)) else (f_R_controls_j6_m M0 (a2 &&& (15 : Int32))))) else M0) else (if (8192 : Int32) ≤ a1 then (if (M0 0 10) = (1 : Int32) then (if (16384 : Int32) ≤ a1 then (if (24576 : Int32) ≤ a1 then let M65 : Mem := mst M0 0 13 (a2 &&& (1 : Int32)); (f_R_controls_j2_m M65) else let M66 : Mem := mst M0 0 12 (a2 &&& (3 : Int32)); (f_R_controls_j2_m M66)) else (if (a2 &&& (31 : Int32)) = 0 then (f_R_controls_j3_m M0 (1 : Int32)) else (f_R_controls_j3_m M0 (a2 &&& (31 : Int32))))) else (if (12288 : Int32) ≤ a1 then (if (16384 : Int32) ≤ a1 then (if (24576 : Int32) ≤ a1 then (f_R_controls_j2_m M0) else let M62 : Mem := mst M0 0 15 (a2 &&& (3 : Int32)); (f_R_controls_j2_m M62)) else let M63 : Mem := mst M0 0 14 (((M0 0 14) &&& (255 : Int32)) ||| ((a2 &&& (1 : Int32)) <<< ((8 : Int32) &&& (31 : Int32)))); (f_R_controls_j2_m M63)) else let M64 : Mem := mst M0 0 14 (((M0 0 14) &&& (256 : Int32)) ||| a2); (f_R_controls_j2_m M64))) else (if (a2 &&& (15 : Int32)) = (10 : Int32) then (f_R_controls_j4_m M0 (1 : Int32)) else (f_R_controls_j4_m M0 (0 : Int32)))))))
def ok_R_controls (M0 : Mem) (a1 : Int32) (a2 : Int32) : Prop := ((((M0 0 8) = 0) → True) ∧ ((¬ (M0 0 8) = 0) → (((¬ (M0 0 10) = 0) → (((¬ (M0 0 10) = (2 : Int32)) → ((((8192 : Int32) ≤ a1) → True) ∧ ((¬ (8192 : Int32) ≤ a1) → (((¬ (a2 &&& (15 : Int32)) = (10 : Int32)) → ok_R_controls_j4 M0 (0 : Int32)) ∧ (((a2 &&& (15 : Int32)) = (10 : Int32)) → ok_R_controls_j4 M0 (1 : Int32)))))) ∧ (((M0 0 10) = (2 : Int32)) → (((a1 < (16384 : Int32)) → (((¬ (a1 &&& (256 : Int32)) = 0) → True) ∧ (((a1 &&& (256 : Int32)) = 0) → (((¬ (a2 &&& (15 : Int32)) = (10 : Int32)) → ok_R_controls_j7 M0 (0 : Int32)) ∧ (((a2 &&& (15 : Int32)) = (10 : Int32)) → ok_R_controls_j7 M0 (1 : Int32)))))) ∧ ((¬ a1 < (16384 : Int32)) → True))))) ∧ (((M0 0 10) = 0) → True))))
set_option maxRecDepth 100000 in
set_option maxHeartbeats 4000000 in
theorem sp_R_controls (M0 : Mem) (a1 : Int32) (a2 : Int32) (Q : Mem → Prop) (hok : ok_R_controls M0 a1 a2) (hQ : Q (f_R_controls_m M0 a1 a2)) : wp_R_controls M0 a1 a2 Q := by
  unfold wp_R_controls
  unfold ok_R_controls at hok
  unfold f_R_controls_m at hQ
  refine ⟨fun hc => ?_, fun hc => ?_⟩
  · simp only [if_pos hc] at hQ
    exact sp_R_controls_j1 _ _ hQ
  · simp only [if_neg hc] at hQ
    have hok := hok.2 hc
    refine ⟨fun hc => ?_, fun hc => ?_⟩
    · simp only [if_neg hc] at hQ
      have hok := hok.1 hc
      refine ⟨fun hc => ?_, fun hc => ?_⟩
      · simp only [if_neg hc] at hQ
        have hok := hok.1 hc
        refine ⟨fun hc => ?_, fun hc => ?_⟩
        · simp only [if_pos hc] at hQ
          refine ⟨fun hc => ?_, fun hc => ?_⟩
          · simp only [if_neg hc] at hQ
            refine ⟨fun hc => ?_, fun hc => ?_⟩
            · simp only [if_pos hc] at hQ
              refine ⟨fun hc => ?_, fun hc => ?_⟩
              · simp only [if_pos hc] at hQ
                refine ⟨fun hc => ?_, fun hc => ?_⟩
                · simp only [if_pos hc] at hQ
                  exact sp_R_controls_j2 _ _ hQ
                · simp only [if_neg hc] at hQ
                  intro M62 h_; subst h_
                  exact sp_R_controls_j2 _ _ hQ
              · simp only [if_neg hc] at hQ
                intro M63 h_; subst h_
                exact sp_R_controls_j2 _ _ hQ
            · simp only [if_neg hc] at hQ
              intro M64 h_; subst h_
              exact sp_R_controls_j2 _ _ hQ
          · simp only [if_pos hc] at hQ
            refine ⟨fun hc => ?_, fun hc => ?_⟩
            · simp only [if_pos hc] at hQ
              refine ⟨fun hc => ?_, fun hc => ?_⟩
              · simp only [if_pos hc] at hQ
                intro M65 h_; subst h_
                exact sp_R_controls_j2 _ _ hQ
              · simp only [if_neg hc] at hQ
                intro M66 h_; subst h_
                exact sp_R_controls_j2 _ _ hQ
            · simp only [if_neg hc] at hQ
              refine ⟨fun hc => ?_, fun hc => ?_⟩
              · simp only [if_neg hc] at hQ
                exact sp_R_controls_j3 _ _ _ hQ
              · simp only [if_pos hc] at hQ
                exact sp_R_controls_j3 _ _ _ hQ
        · simp only [if_neg hc] at hQ
          have hok := hok.2 hc
          refine ⟨fun hc => ?_, fun hc => ?_⟩
          · simp only [if_neg hc] at hQ
            have hok := hok.1 hc
            exact sp_R_controls_j4 _ _ _ hok hQ
          · simp only [if_pos hc] at hQ
            have hok := hok.2 hc
            exact sp_R_controls_j4 _ _ _ hok hQ
      · simp only [if_pos hc] at hQ
        have hok := hok.2 hc
        refine ⟨fun hc => ?_, fun hc => ?_⟩
        · simp only [if_pos hc] at hQ
          have hok := hok.1 hc
          refine ⟨fun hc => ?_, fun hc => ?_⟩
          · simp only [if_neg hc] at hQ
            refine ⟨fun hc => ?_, fun hc => ?_⟩
            · simp only [if_neg hc] at hQ
              exact sp_R_controls_j6 _ _ _ hQ
            · simp only [if_pos hc] at hQ
              exact sp_R_controls_j6 _ _ _ hQ
          · simp only [if_pos hc] at hQ
            have hok := hok.2 hc
            refine ⟨fun hc => ?_, fun hc => ?_⟩
            · simp only [if_neg hc] at hQ
              have hok := hok.1 hc
              exact sp_R_controls_j7 _ _ _ hok hQ
            · simp only [if_pos hc] at hQ
              have hok := hok.2 hc
              exact sp_R_controls_j7 _ _ _ hok hQ
        · simp only [if_neg hc] at hQ
          exact hQ
    · simp only [if_pos hc] at hQ
      exact sp_R_controls_j1 _ _ hQ
def f_R_state_j1_v (x2 : Int32) : Int32 := x2
set_option maxRecDepth 100000 in
set_option maxHeartbeats 4000000 in
theorem sp_R_state_j1 (x2 : Int32) (Q : Int32 → Prop) (hQ : Q (f_R_state_j1_v x2)) : wp_R_state_j1 x2 Q := by
  unfold wp_R_state_j1
  unfold f_R_state_j1_v at hQ
  exact hQ
def f_R_state_v (M0 : Mem) : Int32 := (if ((M0 0 33) &&& (128 : Int32)) = 0 then (0 : Int32) else (if (M0 0 37) < (144 : Int32) then (if (20 : Int32) ≤ (M0 0 45) then (if (63 : Int32) ≤ (M0 0 45) then (f_R_state_j1_v (0 : Int32)) else (f_R_state_j1_v (3 : Int32))) else (f_R_state_j1_v (2 : Int32))) else (f_R_state_j1_v (1 : Int32))))
set_option maxRecDepth 100000 in
set_option maxHeartbeats 4000000 in
theorem sp_R_state (M0 : Mem) (Q : Int32 → Prop) (hQ : Q (f_R_state_v M0)) : wp_R_state M0 Q := by
  unfold wp_R_state
  unfold f_R_state_v at hQ
  refine ⟨fun hc => ?_, fun hc => ?_⟩
  · simp only [if_neg hc] at hQ
    refine ⟨fun hc => ?_, fun hc => ?_⟩
    · simp only [if_pos hc] at hQ
      refine ⟨fun hc => ?_, fun hc => ?_⟩
      · simp only [if_pos hc] at hQ
        refine ⟨fun hc => ?_, fun hc => ?_⟩
        · simp only [if_pos hc] at hQ
          exact sp_R_state_j1 _ _ hQ
        · simp only [if_neg hc] at hQ
          exact sp_R_state_j1 _ _ hQ
      · simp only [if_neg hc] at hQ
        exact sp_R_state_j1 _ _ hQ
    · simp only [if_neg hc] at hQ
      exact sp_R_state_j1 _ _ hQ
  · simp only [if_pos hc] at hQ
    exact hQ
def f_R_keyBits_j1_v (x2 : Int32) (K1_v : Int32 → Int32 → Int32) (x6 : Int32) : Int32 := let x7 : Int32 := x2 + (1 : Int32); (K1_v x6 x7)
def ok_R_keyBits_j1 (x2 : Int32) (K1_ok : Int32 → Int32 → Prop) (x6 : Int32) : Prop := ∀ x7 : Int32, x7 = x2 + (1 : Int32) → K1_ok x6 x7
set_option maxRecDepth 100000 in
set_option maxHeartbeats 4000000 in
theorem sp_R_keyBits_j1 (x2 : Int32) {Q : Int32 → Prop} (K1 : Int32 → Int32 → Prop) (K1_v : Int32 → Int32 → Int32) (K1_ok : Int32 → Int32 → Prop) (hK1 : ∀ (z0 : Int32) (z1 : Int32), K1_ok z0 z1 → Q (K1_v z0 z1) → K1 z0 z1) (x6 : Int32) (hok : ok_R_keyBits_j1 x2 K1_ok x6) (hQ : Q (f_R_keyBits_j1_v x2 K1_v x6)) : wp_R_keyBits_j1 x2 K1 x6 Q := by
  unfold wp_R_keyBits_j1
  unfold ok_R_keyBits_j1 at hok
  unfold f_R_keyBits_j1_v at hQ
  intro x7 h_; subst h_
  have hok := hok _ rfl
  exact hK1 _ _  hok hQ
def f_R_keyBits_j2_v (x1 : Int32) (x2 : Int32) (K1_v : Int32 → Int32 → Int32) : Int32 := let x8 : Int32 := (x1 &&& (((1 : Int32) <<< (x2 &&& (31 : Int32))) ^^^ (-1 : Int32))); (f_R_keyBits_j1_v x2 K1_v x8)
def ok_R_keyBits_j2 (x1 : Int32) (x2 : Int32) (K1_ok : Int32 → Int32 → Prop) : Prop := ∀ x8 : Int32, x8 = (x1 &&& (((1 : Int32) <<< (x2 &&& (31 : Int32))) ^^^ (-1 : Int32))) → ok_R_keyBits_j1 x2 K1_ok x8
set_option maxRecDepth 100000 in
set_option maxHeartbeats 4000000 in
theorem sp_R_keyBits_j2 (x1 : Int32) (x2 : Int32) {Q : Int32 → Prop} (K1 : Int32 → Int32 → Prop) (K1_v : Int32 → Int32 → Int32) (K1_ok : Int32 → Int32 → Prop) (hK1 : ∀ (z0 : Int32) (z1 : Int32), K1_ok z0 z1 → Q (K1_v z0 z1) → K1 z0 z1) (hok : ok_R_keyBits_j2 x1 x2 K1_ok) (hQ : Q (f_R_keyBits_j2_v x1 x2 K1_v)) : wp_R_keyBits_j2 x1 x2 K1 Q := by
  unfold wp_R_keyBits_j2
  unfold ok_R_keyBits_j2 at hok
  unfold f_R_keyBits_j2_v at hQ
  intro x8 h_; subst h_
  have hok := hok _ rfl
  exact sp_R_keyBits_j1 _ _ _ _ hK1 _  hok hQ
def f_R_keyBits_j3_v (M0 : Mem) (x1 : Int32) (x2 : Int32) (K1_v : Int32 → Int32 → Int32) : Int32 := (if ((M0 0 26) &&& (32 : Int32)) = 0 then (if (((M0 0 25) >>> ((x2 + (4 : Int32)) &&& (31 : Int32))) &&& (1 : Int32)) = (1 : Int32) then (f_R_keyBits_j2_v x1 x2 K1_v) else (f_R_keyBits_j1_v x2 K1_v x1)) else (f_R_keyBits_j1_v x2 K1_v x1))
def ok_R_keyBits_j3 (M0 : Mem) (x1 : Int32) (x2 : Int32) (K1_ok : Int32 → Int32 → Prop) : Prop := (((¬ ((M0 0 26) &&& (32 : Int32)) = 0) → ok_R_keyBits_j1 x2 K1_ok x1) ∧ ((((M0 0 26) &&& (32 : Int32)) = 0) → (((¬ (((M0 0 25) >>> ((x2 + (4 : Int32)) &&& (31 : Int32))) &&& (1 : Int32)) = (1 : Int32)) → ok_R_keyBits_j1 x2 K1_ok x1) ∧ (((((M0 0 25) >>> ((x2 + (4 : Int32)) &&& (31 : Int32))) &&& (1 : Int32)) = (1 : Int32)) → ok_R_keyBits_j2 x1 x2 K1_ok))))
set_option maxRecDepth 100000 in
set_option maxHeartbeats 4000000 in
theorem sp_R_keyBits_j3 (M0 : Mem) (x1 : Int32) (x2 : Int32) {Q : Int32 → Prop} (K1 : Int32 → Int32 → Prop) (K1_v : Int32 → Int32 → Int32) (K1_ok : Int32 → Int32 → Prop) (hK1 : ∀ (z0 : Int32) (z1 : Int32), K1_ok z0 z1 → Q (K1_v z0 z1) → K1 z0 z1) (hok : ok_R_keyBits_j3 M0 x1 x2 K1_ok) (hQ : Q (f_R_keyBits_j3_v M0 x1 x2 K1_v)) : wp_R_keyBits_j3 M0 x1 x2 K1 Q := by
  unfold wp_R_keyBits_j3
  unfold ok_R_keyBits_j3 at hok
  unfold f_R_keyBits_j3_v at hQ
  refine ⟨fun hc => ?_, fun hc => ?_⟩
  · simp only [if_neg hc] at hQ
    have hok := hok.1 hc
    exact sp_R_keyBits_j1 _ _ _ _ hK1 _  hok hQ
  · simp only [if_pos hc] at hQ
    have hok := hok.2 hc
    refine ⟨fun hc => ?_, fun hc => ?_⟩
    · simp only [if_neg hc] at hQ
      have hok := hok.1 hc
      exact sp_R_keyBits_j1 _ _ _ _ hK1 _  hok hQ
    · simp only [if_pos hc] at hQ
      have hok := hok.2 hc
      exact sp_R_keyBits_j2 _ _ _ _ _ hK1  hok hQ
def f_R_keyBits_l1_v (M0 : Mem) (n : Nat) : Int32 → Int32 → Int32 := Nat.rec (motive := fun _ => Int32 → Int32 → Int32) (fun _ _ => 0) (fun _ K1_v x1 x2 => (if (4 : Int32) ≤ x2 then (((192 : Int32) ||| (M0 0 26)) ||| x1) else (if ((M0 0 26) &&& (16 : Int32)) = 0 then (if (((M0 0 25) >>> (x2 &&& (31 : Int32))) &&& (1 : Int32)) = (1 : Int32) then (f_R_keyBits_j2_v x1 x2 K1_v) else (f_R_keyBits_j3_v M0 x1 x2 K1_v)) else (f_R_keyBits_j3_v M0 x1 x2 K1_v)))) n
theorem f_R_keyBits_l1_v_s (M0 : Mem) (n : Nat) (x1 : Int32) (x2 : Int32) : f_R_keyBits_l1_v M0 (n + 1) x1 x2 = (let K1_v : Int32 → Int32 → Int32 := f_R_keyBits_l1_v M0 n; (if (4 : Int32) ≤ x2 then (((192 : Int32) ||| (M0 0 26)) ||| x1) else (if ((M0 0 26) &&& (16 : Int32)) = 0 then (if (((M0 0 25) >>> (x2 &&& (31 : Int32))) &&& (1 : Int32)) = (1 : Int32) then (f_R_keyBits_j2_v x1 x2 K1_v) else (f_R_keyBits_j3_v M0 x1 x2 K1_v)) else (f_R_keyBits_j3_v M0 x1 x2 K1_v)))) := rfl
def ok_R_keyBits_l1 (M0 : Mem) (n : Nat) : Int32 → Int32 → Prop := Nat.rec (motive := fun _ => Int32 → Int32 → Prop) (fun _ _ => False) (fun _ K1_ok x1 x2 => ((((4 : Int32) ≤ x2) → True) ∧ ((¬ (4 : Int32) ≤ x2) → (((¬ ((M0 0 26) &&& (16 : Int32)) = 0) → ok_R_keyBits_j3 M0 x1 x2 K1_ok) ∧ ((((M0 0 26) &&& (16 : Int32)) = 0) → ((((((M0 0 25) >>> (x2 &&& (31 : Int32))) &&& (1 : Int32)) = (1 : Int32)) → ok_R_keyBits_j2 x1 x2 K1_ok) ∧ ((¬ (((M0 0 25) >>> (x2 &&& (31 : Int32))) &&& (1 : Int32)) = (1 : Int32)) → ok_R_keyBits_j3 M0 x1 x2 K1_ok))))))) n
set_option maxRecDepth 100000 in
set_option maxHeartbeats 4000000 in
theorem sp_R_keyBits_l1 (M0 : Mem) {Q : Int32 → Prop} : ∀ (n : Nat) (x1 : Int32) (x2 : Int32), ok_R_keyBits_l1 M0 n x1 x2 → Q (f_R_keyBits_l1_v M0 n x1 x2) → wp_R_keyBits_l1 M0 Q n x1 x2 := by
  intro n
  induction n with
  | zero => intro x1 x2 hok; exact False.elim hok
  | succ n ih =>
    intro x1 x2 hok hQ
    have hK1 := ih
    rw [f_R_keyBits_l1_v_s] at hQ
    refine ⟨fun hc => ?_, fun hc => ?_⟩
    · simp only [if_pos hc] at hQ
      exact hQ
    · simp only [if_neg hc] at hQ
      have hok := hok.2 hc
      refine ⟨fun hc => ?_, fun hc => ?_⟩
      · simp only [if_neg hc] at hQ
        have hok := hok.1 hc
        exact sp_R_keyBits_j3 _ _ _ _ _ _ hK1  hok hQ
      · simp only [if_pos hc] at hQ
        have hok := hok.2 hc
        refine ⟨fun hc => ?_, fun hc => ?_⟩
        · simp only [if_pos hc] at hQ
          have hok := hok.1 hc
          exact sp_R_keyBits_j2 _ _ _ _ _ hK1  hok hQ
        · simp only [if_neg hc] at hQ
          have hok := hok.2 hc
          exact sp_R_keyBits_j3 _ _ _ _ _ _ hK1  hok hQ
def f_R_keyBits_v (M0 : Mem) : Int32 := (f_R_keyBits_l1_v M0 5 (15 : Int32) (0 : Int32))
def ok_R_keyBits (M0 : Mem) : Prop := ok_R_keyBits_l1 M0 5 (15 : Int32) (0 : Int32)
set_option maxRecDepth 100000 in
set_option maxHeartbeats 4000000 in
theorem sp_R_keyBits (M0 : Mem) (Q : Int32 → Prop) (hok : ok_R_keyBits M0) (hQ : Q (f_R_keyBits_v M0)) : wp_R_keyBits M0 Q := by
  unfold wp_R_keyBits
  unfold ok_R_keyBits at hok
  unfold f_R_keyBits_v at hQ
  exact ⟨_, sp_R_keyBits_l1 _ _ _ _  hok hQ⟩
def f_R_port_j1_v (M0 : Mem) (x4 : Int32) : Int32 := let x5 : Int32 := f_R_state_v M0; ((((128 : Int32) ||| (M0 0 34)) ||| x4) ||| x5)
set_option maxRecDepth 100000 in
set_option maxHeartbeats 4000000 in
theorem sp_R_port_j1 (M0 : Mem) (x4 : Int32) (Q : Int32 → Prop) (hQ : Q (f_R_port_j1_v M0 x4)) : wp_R_port_j1 M0 x4 Q := by
  unfold wp_R_port_j1
  unfold f_R_port_j1_v at hQ
  refine sp_R_state _ _ ?_
  exact hQ
def f_R_port_v (M0 : Mem) (a1 : Int32) : Int32 := (if (a1 = (65280 : Int32)) then let x1 : Int32 := f_R_keyBits_v M0; x1 else (if (a1 = (65284 : Int32)) then (((M0 0 27) >>> ((6 : Int32) &&& (31 : Int32))) &&& (255 : Int32)) else (if (a1 = (65285 : Int32)) then (M0 0 28) else (if (a1 = (65286 : Int32)) then (M0 0 29) else (if (a1 = (65287 : Int32)) then ((M0 0 30) ||| (248 : Int32)) else (if (a1 = (65295 : Int32)) then ((M0 0 31) ||| (224 : Int32)) else (if (a1 = (65344 : Int32)) then (M0 0 33) else (if (a1 = (65345 : Int32)) then (if (M0 0 37) = (M0 0 38) then (f_R_port_j1_v M0 (4 : Int32)) else (f_R_port_j1_v M0 (0 : Int32))) else (if (a1 = (65346 : Int32)) then (M0 0 35) else (if (a1 = (65347 : Int32)) then (M0 0 36) else (if (a1 = (65348 : Int32)) then (M0 0 37) else (if (a1 = (65349 : Int32)) then (M0 0 38) else (if (a1 = (65350 : Int32)) then (M0 0 39) else (if (a1 = (65351 : Int32)) then (M0 0 40) else (if (a1 = (65352 : Int32)) then (M0 0 41) else (if (a1 = (65353 : Int32)) then (M0 0 42) else (if (a1 = (65354 : Int32)) then (M0 0 43) else (if (a1 = (65355 : Int32)) then (M0 0 44) else (if (a1 = (65535 : Int32)) then (M0 0 32) else (255 : Int32))))))))))))))))))))
def ok_R_port (M0 : Mem) (a1 : Int32) : Prop := ((((a1 = (65280 : Int32))) → ok_R_keyBits M0) ∧ ((¬ (a1 = (65280 : Int32))) → True))
set_option maxRecDepth 100000 in
set_option maxHeartbeats 4000000 in
theorem sp_R_port (M0 : Mem) (a1 : Int32) (Q : Int32 → Prop) (hok : ok_R_port M0 a1) (hQ : Q (f_R_port_v M0 a1)) : wp_R_port M0 a1 Q := by
  unfold wp_R_port
  unfold ok_R_port at hok
  unfold f_R_port_v at hQ
  refine ⟨fun hc => ?_, fun hc => ?_⟩
  · simp only [if_pos hc] at hQ
    have hok := hok.1 hc
    refine sp_R_keyBits _ _ hok ?_
    exact hQ
  · simp only [if_neg hc] at hQ
    refine ⟨fun hc => ?_, fun hc => ?_⟩
    · simp only [if_pos hc] at hQ
      exact hQ
    · simp only [if_neg hc] at hQ
      refine ⟨fun hc => ?_, fun hc => ?_⟩
      · simp only [if_pos hc] at hQ
        exact hQ
      · simp only [if_neg hc] at hQ
        refine ⟨fun hc => ?_, fun hc => ?_⟩
        · simp only [if_pos hc] at hQ
          exact hQ
        · simp only [if_neg hc] at hQ
          refine ⟨fun hc => ?_, fun hc => ?_⟩
          · simp only [if_pos hc] at hQ
            exact hQ
          · simp only [if_neg hc] at hQ
            refine ⟨fun hc => ?_, fun hc => ?_⟩
            · simp only [if_pos hc] at hQ
              exact hQ
            · simp only [if_neg hc] at hQ
              refine ⟨fun hc => ?_, fun hc => ?_⟩
              · simp only [if_pos hc] at hQ
                exact hQ
              · simp only [if_neg hc] at hQ
                refine ⟨fun hc => ?_, fun hc => ?_⟩
                · simp only [if_pos hc] at hQ
                  refine ⟨fun hc => ?_, fun hc => ?_⟩
                  · simp only [if_neg hc] at hQ
                    exact sp_R_port_j1 _ _ _ hQ
                  · simp only [if_pos hc] at hQ
                    exact sp_R_port_j1 _ _ _ hQ
                · simp only [if_neg hc] at hQ
                  refine ⟨fun hc => ?_, fun hc => ?_⟩
                  · simp only [if_pos hc] at hQ
                    exact hQ
                  · simp only [if_neg hc] at hQ
                    refine ⟨fun hc => ?_, fun hc => ?_⟩
                    · simp only [if_pos hc] at hQ
                      exact hQ
                    · simp only [if_neg hc] at hQ
                      refine ⟨fun hc => ?_, fun hc => ?_⟩
                      · simp only [if_pos hc] at hQ
                        exact hQ
                      · simp only [if_neg hc] at hQ
                        refine ⟨fun hc => ?_, fun hc => ?_⟩
                        · simp only [if_pos hc] at hQ
                          exact hQ
                        · simp only [if_neg hc] at hQ
                          refine ⟨fun hc => ?_, fun hc => ?_⟩
                          · simp only [if_pos hc] at hQ
                            exact hQ
                          · simp only [if_neg hc] at hQ
                            refine ⟨fun hc => ?_, fun hc => ?_⟩
                            · simp only [if_pos hc] at hQ
                              exact hQ
                            · simp only [if_neg hc] at hQ
                              refine ⟨fun hc => ?_, fun hc => ?_⟩
                              · simp only [if_pos hc] at hQ
                                exact hQ
                              · simp only [if_neg hc] at hQ
                                refine ⟨fun hc => ?_, fun hc => ?_⟩
                                · simp only [if_pos hc] at hQ
                                  exact hQ
                                · simp only [if_neg hc] at hQ
                                  refine ⟨fun hc => ?_, fun hc => ?_⟩
                                  · simp only [if_pos hc] at hQ
                                    exact hQ
                                  · simp only [if_neg hc] at hQ
                                    refine ⟨fun hc => ?_, fun hc => ?_⟩
                                    · simp only [if_pos hc] at hQ
                                      exact hQ
                                    · simp only [if_neg hc] at hQ
                                      refine ⟨fun hc => ?_, fun hc => ?_⟩
                                      · simp only [if_pos hc] at hQ
                                        exact hQ
                                      · simp only [if_neg hc] at hQ
                                        exact hQ
def f_R_get_j1_v (x3 : Int32) : Int32 := x3
set_option maxRecDepth 100000 in
set_option maxHeartbeats 4000000 in
theorem sp_R_get_j1 (x3 : Int32) (Q : Int32 → Prop) (hQ : Q (f_R_get_j1_v x3)) : wp_R_get_j1 x3 Q := by
  unfold wp_R_get_j1
  unfold f_R_get_j1_v at hQ
  exact hQ
def f_R_get_j2_v (M0 : Mem) (a1 : Int32) : Int32 := let x4 : Int32 := f_R_port_v M0 a1; (f_R_get_j1_v x4)
def ok_R_get_j2 (M0 : Mem) (a1 : Int32) : Prop := ok_R_port M0 a1
set_option maxRecDepth 100000 in
set_option maxHeartbeats 4000000 in
theorem sp_R_get_j2 (M0 : Mem) (a1 : Int32) (Q : Int32 → Prop) (hok : ok_R_get_j2 M0 a1) (hQ : Q (f_R_get_j2_v M0 a1)) : wp_R_get_j2 M0 a1 Q := by
  unfold wp_R_get_j2
  unfold ok_R_get_j2 at hok
  unfold f_R_get_j2_v at hQ
  refine sp_R_port _ _ _ hok ?_
  exact sp_R_get_j1 _ _ hQ
def f_R_get_j3_v (x10 : Int32) : Int32 := x10
set_option maxRecDepth 100000 in
set_option maxHeartbeats 4000000 in
theorem sp_R_get_j3 (x10 : Int32) (Q : Int32 → Prop) (hQ : Q (f_R_get_j3_v x10)) : wp_R_get_j3 x10 Q := by
  unfold wp_R_get_j3
  unfold f_R_get_j3_v at hQ
  exact hQ
def f_R_get_j4_v (M0 : Mem) (a1 : Int32) (x11 : Int32) (x13 : Int32) : Int32 := (f_R_get_j3_v ((M0 2 ((((256 : Int32) * x11) + (a1 &&& (255 : Int32)))).toNatClampNeg) ||| x13))
set_option maxRecDepth 100000 in
set_option maxHeartbeats 4000000 in
theorem sp_R_get_j4 (M0 : Mem) (a1 : Int32) (x11 : Int32) (x13 : Int32) (Q : Int32 → Prop) (hQ : Q (f_R_get_j4_v M0 a1 x11 x13)) : wp_R_get_j4 M0 a1 x11 x13 Q := by
  unfold wp_R_get_j4
  unfold f_R_get_j4_v at hQ
  exact sp_R_get_j3 _ _ hQ
def f_R_get_v (M0 : Mem) (a1 : Int32) : Int32 := (if (16384 : Int32) ≤ a1 then (if (32768 : Int32) ≤ a1 then (if (40960 : Int32) ≤ a1 then (if (49152 : Int32) ≤ a1 then (if (65024 : Int32) ≤ a1 then (if (65184 : Int32) ≤ a1 then (if (65280 : Int32) ≤ a1 then (if a1 < (65408 : Int32) then (f_R_get_j2_v M0 a1) else (if a1 = (65535 : Int32) then (f_R_get_j2_v M0 a1) else (f_R_get_j1_v (M0 6 ((a1 - (65408 : Int32))).toNatClampNeg)))) else (255 : Int32)) else (M0 5 ((a1 - (65024 : Int32))).toNatClampNeg)) else (M0 4 ((a1 &&& (1023 : Int32))).toNatClampNeg)) else let x5 : Int32 := f_R_hasRam_v M0; (if x5 = 0 then (f_R_get_j3_v (255 : Int32)) else let x11 : Int32 := f_R_bankRam_v M0; (if (M0 0 10) = (2 : Int32) then (f_R_get_j4_v M0 a1 x11 (240 : Int32)) else (f_R_get_j4_v M0 a1 x11 (0 : Int32))))) else (M0 3 ((a1 - (32768 : Int32))).toNatClampNeg)) else let x14 : Int32 := f_R_bankHigh_v M0; (M0 1 ((((1024 : Int32) * x14) + (a1 &&& (1023 : Int32)))).toNatClampNeg)) else (M0 1 ((a1 &&& (1023 : Int32))).toNatClampNeg))
def ok_R_get (M0 : Mem) (a1 : Int32) : Prop := ((((16384 : Int32) ≤ a1) → ((((32768 : Int32) ≤ a1) → ((((40960 : Int32) ≤ a1) → ((((49152 : Int32) ≤ a1) → ((((65024 : Int32) ≤ a1) → ((((65184 : Int32) ≤ a1) → ((((65280 : Int32) ≤ a1) → (((a1 < (65408 : Int32)) → ok_R_get_j2 M0 a1) ∧ ((¬ a1 < (65408 : Int32)) → (((¬ a1 = (65535 : Int32)) → vp_in (a1 - (65408 : Int32)) 127) ∧ ((a1 = (65535 : Int32)) → ok_R_get_j2 M0 a1))))) ∧ ((¬ (65280 : Int32) ≤ a1) → True))) ∧ ((¬ (65184 : Int32) ≤ a1) → vp_in (a1 - (65024 : Int32)) 160))) ∧ ((¬ (65024 : Int32) ≤ a1) → vp_in (a1 &&& (1023 : Int32)) 1024))) ∧ ((¬ (49152 : Int32) ≤ a1) → ok_R_hasRam M0 ∧ (∀ x5 : Int32, x5 = f_R_hasRam_v M0 → (((¬ x5 = 0) → ∀ x11 : Int32, x11 = f_R_bankRam_v M0 → vp_in (((256 : Int32) * x11) + (a1 &&& (255 : Int32))) 1024) ∧ ((x5 = 0) → True)))))) ∧ ((¬ (40960 : Int32) ≤ a1) → vp_in (a1 - (32768 : Int32)) 8192))) ∧ ((¬ (32768 : Int32) ≤ a1) → ∀ x14 : Int32, x14 = f_R_bankHigh_v M0 → vp_in (((1024 : Int32) * x14) + (a1 &&& (1023 : Int32))) 8192))) ∧ ((¬ (16384 : Int32) ≤ a1) → vp_in (a1 &&& (1023 : Int32)) 8192))
set_option maxRecDepth 100000 in
set_option maxHeartbeats 4000000 in
theorem sp_R_get (M0 : Mem) (a1 : Int32) (Q : Int32 → Prop) (hok : ok_R_get M0 a1) (hQ : Q (f_R_get_v M0 a1)) : wp_R_get M0 a1 Q := by
  unfold wp_R_get
  unfold ok_R_get at hok
  unfold f_R_get_v at hQ
  refine ⟨fun hc => ?_, fun hc => ?_⟩
  · simp only [if_pos hc] at hQ
    have hok := hok.1 hc
    refine ⟨fun hc => ?_, fun hc => ?_⟩
    · simp only [if_pos hc] at hQ
      have hok := hok.1 hc
      refine ⟨fun hc => ?_, fun hc => ?_⟩
      · simp only [if_pos hc] at hQ
        have hok := hok.1 hc
        refine ⟨fun hc => ?_, fun hc => ?_⟩
        · simp only [if_pos hc] at hQ
          have hok := hok.1 hc
          refine ⟨fun hc => ?_, fun hc => ?_⟩
          · simp only [if_pos hc] at hQ
            have hok := hok.1 hc
            refine ⟨fun hc => ?_, fun hc => ?_⟩
            · simp only [if_pos hc] at hQ
              have hok := hok.1 hc
              refine ⟨fun hc => ?_, fun hc => ?_⟩
              · simp only [if_pos hc] at hQ
                have hok := hok.1 hc
                refine ⟨fun hc => ?_, fun hc => ?_⟩
                · simp only [if_pos hc] at hQ
                  have hok := hok.1 hc
                  exact sp_R_get_j2 _ _ _ hok hQ
                · simp only [if_neg hc] at hQ
                  have hok := hok.2 hc
                  refine ⟨fun hc => ?_, fun hc => ?_⟩
                  · simp only [if_neg hc] at hQ
                    have hok := hok.1 hc
                    refine ⟨hok, ?_⟩
                    exact sp_R_get_j1 _ _ hQ
                  · simp only [if_pos hc] at hQ
                    have hok := hok.2 hc
                    exact sp_R_get_j2 _ _ _ hok hQ
              · simp only [if_neg hc] at hQ
                exact hQ
            · simp only [if_neg hc] at hQ
              have hok := hok.2 hc
              refine ⟨hok, ?_⟩
              exact hQ
          · simp only [if_neg hc] at hQ
            have hok := hok.2 hc
            refine ⟨hok, ?_⟩
            exact hQ
        · simp only [if_neg hc] at hQ
          have hok := hok.2 hc
          refine sp_R_hasRam _ _ hok.1 ?_
          have hok := hok.2 _ rfl
          refine ⟨fun hc => ?_, fun hc => ?_⟩
          · simp only [if_neg hc] at hQ
            have hok := hok.1 hc
            refine sp_R_bankRam _ _ ?_
            have hok := hok _ rfl
            refine ⟨hok, ?_⟩
            refine ⟨fun hc => ?_, fun hc => ?_⟩
            · simp only [if_neg hc] at hQ
              exact sp_R_get_j4 _ _ _ _ _ hQ
            · simp only [if_pos hc] at hQ
              exact sp_R_get_j4 _ _ _ _ _ hQ
          · simp only [if_pos hc] at hQ
            exact sp_R_get_j3 _ _ hQ
      · simp only [if_neg hc] at hQ
        have hok := hok.2 hc
        refine ⟨hok, ?_⟩
        exact hQ
    · simp only [if_neg hc] at hQ
      have hok := hok.2 hc
      refine sp_R_bankHigh _ _ ?_
      have hok := hok _ rfl
      refine ⟨hok, ?_⟩
      exact hQ
  · simp only [if_neg hc] at hQ
    have hok := hok.2 hc
    refine ⟨hok, ?_⟩
    exact hQ
def f_R_setPort_j1_m (M27 : Mem) : Mem := M27
set_option maxRecDepth 100000 in
set_option maxHeartbeats 4000000 in
theorem sp_R_setPort_j1 (M27 : Mem) (Q : Mem → Prop) (hQ : Q (f_R_setPort_j1_m M27)) : wp_R_setPort_j1 M27 Q := by
  unfold wp_R_setPort_j1
  unfold f_R_setPort_j1_m at hQ
  exact hQ
def f_R_setPort_l1_m (a2 : Int32) (n : Nat) : Int32 → Mem → Mem := Nat.rec (motive := fun _ => Int32 → Mem → Mem) (fun _ _ => (fun _ _ => 0)) (fun _ K1_m x42 M43 => (if (160 : Int32) ≤ x42 then (f_R_setPort_j1_m M43) else let x44 : Int32 := f_R_get_v M43 ((((256 : Int32) * a2) + x42) &&& (65535 : Int32)); let M45 : Mem := mst M43 5 x42.toNatClampNeg x44; let x46 : Int32 := x42 + (1 : Int32); (K1_m x46 M45))) n
theorem f_R_setPort_l1_m_s (a2 : Int32) (n : Nat) (x42 : Int32) (M43 : Mem) : f_R_setPort_l1_m a2 (n + 1) x42 M43 = (let K1_m : Int32 → Mem → Mem := f_R_setPort_l1_m a2 n; (if (160 : Int32) ≤ x42 then (f_R_setPort_j1_m M43) else let x44 : Int32 := f_R_get_v M43 ((((256 : Int32) * a2) + x42) &&& (65535 : Int32)); let M45 : Mem := mst M43 5 x42.toNatClampNeg x44; let x46 : Int32 := x42 + (1 : Int32); (K1_m x46 M45))) := rfl
def ok_R_setPort_l1 (a2 : Int32) (n : Nat) : Int32 → Mem → Prop := Nat.rec (motive := fun _ => Int32 → Mem → Prop) (fun _ _ => False) (fun _ K1_ok x42 M43 => ((((160 : Int32) ≤ x42) → True) ∧ ((¬ (160 : Int32) ≤ x42) → ok_R_get M43 ((((256 : Int32) * a2) + x42) &&& (65535 : Int32)) ∧ (∀ x44 : Int32, x44 = f_R_get_v M43 ((((256 : Int32) * a2) + x42) &&& (65535 : Int32)) → vp_in x42 160 ∧ (∀ M45 : Mem, M45 = mst M43 5 x42.toNatClampNeg x44 → ∀ x46 : Int32, x46 = x42 + (1 : Int32) → K1_ok x46 M45))))) n
set_option maxRecDepth 100000 in
set_option maxHeartbeats 4000000 in
theorem sp_R_setPort_l1 (a2 : Int32) {Q : Mem → Prop} : ∀ (n : Nat) (x42 : Int32) (M43 : Mem), ok_R_setPort_l1 a2 n x42 M43 → Q (f_R_setPort_l1_m a2 n x42 M43) → wp_R_setPort_l1 a2 Q n x42 M43 := by
  intro n
  induction n with
  | zero => intro x42 M43 hok; exact False.elim hok
  | succ n ih =>
    intro x42 M43 hok hQ
    have hK1 := ih
    rw [f_R_setPort_l1_m_s] at hQ
    refine ⟨fun hc => ?_, fun hc => ?_⟩
    · simp only [if_pos hc] at hQ
      exact sp_R_setPort_j1 _ _ hQ
    · simp only [if_neg hc] at hQ
      have hok := hok.2 hc
      refine sp_R_get _ _ _ hok.1 ?_
      have hok := hok.2 _ rfl
      refine ⟨hok.1, ?_⟩
      have hok := hok.2
      intro M45 h_; subst h_
      have hok := hok _ rfl
      intro x46 h_; subst h_
      have hok := hok _ rfl
      exact hK1 _ _  hok hQ
def f_R_setPort_m (M0 : Mem) (a1 : Int32) (a2 : Int32) : Mem := (if (a1 = (65280 : Int32)) then let M28 : Mem := mst M0 0 26 (a2 &&& (48 : Int32)); (f_R_setPort_j1_m M28) else (if (a1 = (65284 : Int32)) then let M29 : Mem := mst M0 0 27 (0 : Int32); (f_R_setPort_j1_m M29) else (if (a1 = (65285 : Int32)) then let M30 : Mem := mst M0 0 28 a2; (f_R_setPort_j1_m M30) else (if (a1 = (65286 : Int32)) then let M31 : Mem := mst M0 0 29 a2; (f_R_setPort_j1_m M31) else (if (a1 = (65287 : Int32)) then let M32 : Mem := mst M0 0 30 (a2 &&& (7 : Int32)); (f_R_setPort_j1_m M32) else (if (a1 = (65295 : Int32)) then let M33 : Mem := mst M0 0 31 (a2 &&& (31 : Int32)); (f_R_setPort_j1_m M33) else (if (a1 = (65344 : Int32)) then let M34 : Mem := mst M0 0 33 a2; (if (a2 &&& (128 : Int32)) = 0 then let M35 : Mem := mst M34 0 45 (0 : Int32); let M36 : Mem := mst M35 0 37 (0 : Int32); (f_R_setPort_j1_m M36) else (f_R_setPort_j1_m M34)) else (if (a1 = (65345 : Int32)) then let M37 : Mem := mst M0 0 34 (a2 &&& (120 : Int32)); (f_R_setPort_j1_m M37) else (if (a1 = (65346 : Int32)) then let M38 : Mem := mst M0 0 35 a2; (f_R_setPort_j1_m M38) else (if (a1 = (65347 : Int32)) then let M39 : Mem := mst M0 0 36 a2; (f_R_setPort_j1_m M39) else (if (a1 = (65349 : Int32)) then let M40 : Mem := mst M0 0 38 a2; (f_R_setPort_j1_m M40) else (if (a1 = (65350 : Int32)) then let M41 : Mem := mst M0 0 39 a2; (f_R_setPort_l1_m a2 161 (0 : Int32) M41) else (if (a1 = (65351 : Int32)) then let M47 : Mem := mst M0 0 40 a2; (f_R_setPort_j1_m M47) else (if (a1 = (65352 : Int32)) then let M48 : Mem := mst M0 0 41 a2; (f_R_setPort_j1_m M48) else (if (a1 = (65353 : Int32)) then let M49 : Mem := mst M0 0 42 a2; (f_R_setPort_j1_m M49) else (if (a1 = (65354 : Int32)) then let M50 : Mem := mst M0 0 43 a2; (f_R_setPort_j1_m M50) else (if (a1 = (65355 : Int32)) then let M51 : Mem := mst M0 0 44 a2; (f_R_setPort_j1_m M51) else (if (a1 = (65535 : Int32)) then let M52 : Mem := mst M0 0 32 a2; (f_R_setPort_j1_m M52) else (f_R_setPort_j1_m M0)))))))))))))))))))
def ok_R_setPort (M0 : Mem) (a1 : Int32) (a2 : Int32) : Prop := ((((a1 = (65280 : Int32))) → True) ∧ ((¬ (a1 = (65280 : Int32))) → ((((a1 = (65284 : Int32))) → True) ∧ ((¬ (a1 = (65284 : Int32))) → ((((a1 = (65285 : Int32))) → True) ∧ ((¬ (a1 = (65285 : Int32))) → ((((a1 = (65286 : Int32))) → True) ∧ ((¬ (a1 = (65286 : Int32))) → ((((a1 = (65287 : Int32))) → True) ∧ ((¬ (a1 = (65287 : Int32))) → ((((a1 = (65295 : Int32))) → True) ∧ ((¬ (a1 = (65295 : Int32))) → ((((a1 = (65344 : Int32))) → True) ∧ ((¬ (a1 = (65344 : Int32))) → ((((a1 = (65345 : Int32))) → True) ∧ ((¬ (a1 = (65345 : Int32))) → ((((a1 = (65346 : Int32))) → True) ∧ ((¬ (a1 = (65346 : Int32))) → ((((a1 = (65347 : Int32))) → True) ∧ ((¬ (a1 = (65347 : Int32))) → ((((a1 = (65349 : Int32))) → True) ∧ ((¬ (a1 = (65349 : Int32))) → ((((a1 = (65350 : Int32))) → ∀ M41 : Mem, M41 = mst M0 0 39 a2 → ok_R_setPort_l1 a2 161 (0 : Int32) M41) ∧ ((¬ (a1 = (65350 : Int32))) → True))))))))))))))))))))))))
set_option maxRecDepth 100000 in
set_option maxHeartbeats 4000000 in
theorem sp_R_setPort (M0 : Mem) (a1 : Int32) (a2 : Int32) (Q : Mem → Prop) (hok : ok_R_setPort M0 a1 a2) (hQ : Q (f_R_setPort_m M0 a1 a2)) : wp_R_setPort M0 a1 a2 Q := by
  unfold wp_R_setPort
  unfold ok_R_setPort at hok
  unfold f_R_setPort_m at hQ
  refine ⟨fun hc => ?_, fun hc => ?_⟩
  · simp only [if_pos hc] at hQ
    intro M28 h_; subst h_
    exact sp_R_setPort_j1 _ _ hQ
  · simp only [if_neg hc] at hQ
    have hok := hok.2 hc
    refine ⟨fun hc => ?_, fun hc => ?_⟩
    · simp only [if_pos hc] at hQ
      intro M29 h_; subst h_
      exact sp_R_setPort_j1 _ _ hQ
    · simp only [if_neg hc] at hQ
      have hok := hok.2 hc
      refine ⟨fun hc => ?_, fun hc => ?_⟩
      · simp only [if_pos hc] at hQ
        intro M30 h_; subst h_
        exact sp_R_setPort_j1 _ _ hQ
      · simp only [if_neg hc] at hQ
        have hok := hok.2 hc
        refine ⟨fun hc => ?_, fun hc => ?_⟩
        · simp only [if_pos hc] at hQ
          intro M31 h_; subst h_
          exact sp_R_setPort_j1 _ _ hQ
        · simp only [if_neg hc] at hQ
          have hok := hok.2 hc
          refine ⟨fun hc => ?_, fun hc => ?_⟩
          · simp only [if_pos hc] at hQ
            intro M32 h_; subst h_
            exact sp_R_setPort_j1 _ _ hQ
          · simp only [if_neg hc] at hQ
            have hok := hok.2 hc
            refine ⟨fun hc => ?_, fun hc => ?_⟩
            · simp only [if_pos hc] at hQ
              intro M33 h_; subst h_
              exact sp_R_setPort_j1 _ _ hQ
            · simp only [if_neg hc] at hQ
              have hok := hok.2 hc
              refine ⟨fun hc => ?_, fun hc => ?_⟩
              · simp only [if_pos hc] at hQ
                intro M34 h_; subst h_
                refine ⟨fun hc => ?_, fun hc => ?_⟩
                · simp only [if_neg hc] at hQ
                  exact sp_R_setPort_j1 _ _ hQ
                · simp only [if_pos hc] at hQ
                  intro M35 h_; subst h_
                  intro M36 h_; subst h_
                  exact sp_R_setPort_j1 _ _ hQ
              · simp only [if_neg hc] at hQ
                have hok := hok.2 hc
                refine ⟨fun hc => ?_, fun hc => ?_⟩
                · simp only [if_pos hc] at hQ
                  intro M37 h_; subst h_
                  exact sp_R_setPort_j1 _ _ hQ
                · simp only [if_neg hc] at hQ
                  have hok := hok.2 hc
                  refine ⟨fun hc => ?_, fun hc => ?_⟩
                  · simp only [if_pos hc] at hQ
                    intro M38 h_; subst h_
                    exact sp_R_setPort_j1 _ _ hQ
                  · simp only [if_neg hc] at hQ
                    have hok := hok.2 hc
                    refine ⟨fun hc => ?_, fun hc => ?_⟩
                    · simp only [if_pos hc] at hQ
                      intro M39 h_; subst h_
                      exact sp_R_setPort_j1 _ _ hQ
                    · simp only [if_neg hc] at hQ
                      have hok := hok.2 hc
                      refine ⟨fun hc => ?_, fun hc => ?_⟩
                      · simp only [if_pos hc] at hQ
                        intro M40 h_; subst h_
                        exact sp_R_setPort_j1 _ _ hQ
                      · simp only [if_neg hc] at hQ
                        have hok := hok.2 hc
                        refine ⟨fun hc => ?_, fun hc => ?_⟩
                        · simp only [if_pos hc] at hQ
                          have hok := hok.1 hc
                          intro M41 h_; subst h_
                          have hok := hok _ rfl
                          exact ⟨_, sp_R_setPort_l1 _ _ _ _  hok hQ⟩
                        · simp only [if_neg hc] at hQ
                          refine ⟨fun hc => ?_, fun hc => ?_⟩
                          · simp only [if_pos hc] at hQ
                            intro M47 h_; subst h_
                            exact sp_R_setPort_j1 _ _ hQ
                          · simp only [if_neg hc] at hQ
                            refine ⟨fun hc => ?_, fun hc => ?_⟩
                            · simp only [if_pos hc] at hQ
                              intro M48 h_; subst h_
                              exact sp_R_setPort_j1 _ _ hQ
                            · simp only [if_neg hc] at hQ
                              refine ⟨fun hc => ?_, fun hc => ?_⟩
                              · simp only [if_pos hc] at hQ
                                intro M49 h_; subst h_
                                exact sp_R_setPort_j1 _ _ hQ
                              · simp only [if_neg hc] at hQ
                                refine ⟨fun hc => ?_, fun hc => ?_⟩
                                · simp only [if_pos hc] at hQ
                                  intro M50 h_; subst h_
                                  exact sp_R_setPort_j1 _ _ hQ
                                · simp only [if_neg hc] at hQ
                                  refine ⟨fun hc => ?_, fun hc => ?_⟩
                                  · simp only [if_pos hc] at hQ
                                    intro M51 h_; subst h_
                                    exact sp_R_setPort_j1 _ _ hQ
                                  · simp only [if_neg hc] at hQ
                                    refine ⟨fun hc => ?_, fun hc => ?_⟩
                                    · simp only [if_pos hc] at hQ
                                      intro M52 h_; subst h_
                                      exact sp_R_setPort_j1 _ _ hQ
                                    · simp only [if_neg hc] at hQ
                                      exact sp_R_setPort_j1 _ _ hQ
def f_R_put_j1_m (M16 : Mem) : Mem := M16
set_option maxRecDepth 100000 in
set_option maxHeartbeats 4000000 in
theorem sp_R_put_j1 (M16 : Mem) (Q : Mem → Prop) (hQ : Q (f_R_put_j1_m M16)) : wp_R_put_j1 M16 Q := by
  unfold wp_R_put_j1
  unfold f_R_put_j1_m at hQ
  exact hQ
def f_R_put_j2_m (M0 : Mem) (a1 : Int32) (a2 : Int32) : Mem := (if a1 < (65280 : Int32) then (f_R_put_j1_m M0) else let M19 : Mem := f_R_setPort_m M0 a1 a2; (f_R_put_j1_m M19))
def ok_R_put_j2 (M0 : Mem) (a1 : Int32) (a2 : Int32) : Prop := (((a1 < (65280 : Int32)) → True) ∧ ((¬ a1 < (65280 : Int32)) → ok_R_setPort M0 a1 a2))
set_option maxRecDepth 100000 in
set_option maxHeartbeats 4000000 in
theorem sp_R_put_j2 (M0 : Mem) (a1 : Int32) (a2 : Int32) (Q : Mem → Prop) (hok : ok_R_put_j2 M0 a1 a2) (hQ : Q (f_R_put_j2_m M0 a1 a2)) : wp_R_put_j2 M0 a1 a2 Q := by
  unfold wp_R_put_j2
  unfold ok_R_put_j2 at hok
  unfold f_R_put_j2_m at hQ
  refine ⟨fun hc => ?_, fun hc => ?_⟩
  · simp only [if_pos hc] at hQ
    exact sp_R_put_j1 _ _ hQ
  · simp only [if_neg hc] at hQ
    have hok := hok.2 hc
    refine sp_R_setPort _ _ _ _ hok ?_
    exact sp_R_put_j1 _ _ hQ
def f_R_put_j3_m (M0 : Mem) (a1 : Int32) (x24 : Int32) (x27 : Int32) : Mem := let M28 : Mem := mst M0 2 ((((256 : Int32) * x24) + (a1 &&& (255 : Int32)))).toNatClampNeg x27; (f_R_put_j1_m M28)
def ok_R_put_j3 (M0 : Mem) (a1 : Int32) (x24 : Int32) (x27 : Int32) : Prop := vp_in (((256 : Int32) * x24) + (a1 &&& (255 : Int32))) 1024
set_option maxRecDepth 100000 in
set_option maxHeartbeats 4000000 in
theorem sp_R_put_j3 (M0 : Mem) (a1 : Int32) (x24 : Int32) (x27 : Int32) (Q : Mem → Prop) (hok : ok_R_put_j3 M0 a1 x24 x27) (hQ : Q (f_R_put_j3_m M0 a1 x24 x27)) : wp_R_put_j3 M0 a1 x24 x27 Q := by
  unfold wp_R_put_j3
  unfold ok_R_put_j3 at hok
  unfold f_R_put_j3_m at hQ
  refine ⟨hok, ?_⟩
  intro M28 h_; subst h_
  exact sp_R_put_j1 _ _ hQ
def f_R_put_m (M0 : Mem) (a1 : Int32) (a2 : Int32) : Mem := (if (32768 : Int32) ≤ a1 then (if (40960 : Int32) ≤ a1 then (if (49152 : Int32) ≤ a1 then (if (65024 : Int32) ≤ a1 then (if (65184 : Int32) ≤ a1 then (if a1 < (65408 : Int32) then (f_R_put_j2_m M0 a1 a2) else (if (65535 : Int32) ≤ a1 then (f_R_put_j2_m M0 a1 a2) else let M20 : Mem := mst M0 6 ((a1 - (65408 : Int32))).toNatClampNeg a2; (f_R_put_j1_m M20))) else let M21 : Mem := mst M0 5 ((a1 - (65024 : Int32))).toNatClampNeg a2; (f_R_put_j1_m M21)) else let M22 : Mem := mst M0 4 ((a1 &&& (1023 : Int32))).toNatClampNeg a2; (f_R_put_j1_m M22)) else let x23 : Int32 := f_R_hasRam_v M0; (if x23 = 0 then (f_R_put_j1_m M0) else let x24 : Int32 := f_R_bankRam_v M0; (if (M0 0 10) = (2 : Int32) then (f_R_put_j3_m M0 a1 x24 (a2 &&& (15 : Int32))) else (f_R_put_j3_m M0 a1 x24 a2)))) else let M29 : Mem := mst M0 3 ((a1 - (32768 : Int32))).toNatClampNeg a2; (f_R_put_j1_m M29)) else let M30 : Mem := f_R_controls_m M0 a1 a2; (f_R_put_j1_m M30))
def ok_R_put (M0 : Mem) (a1 : Int32) (a2 : Int32) : Prop := ((((32768 : Int32) ≤ a1) → ((((40960 : Int32) ≤ a1) → ((((49152 : Int32) ≤ a1) → ((((65024 : Int32) ≤ a1) → ((((65184 : Int32) ≤ a1) → (((a1 < (65408 : Int32)) → ok_R_put_j2 M0 a1 a2) ∧ ((¬ a1 < (65408 : Int32)) → ((((65535 : Int32) ≤ a1) → ok_R_put_j2 M0 a1 a2) ∧ ((¬ (65535 : Int32) ≤ a1) → vp_in (a1 - (65408 : Int32)) 127))))) ∧ ((¬ (65184 : Int32) ≤ a1) → vp_in (a1 - (65024 : Int32)) 160))) ∧ ((¬ (65024 : Int32) ≤ a1) → vp_in (a1 &&& (1023 : Int32)) 1024))) ∧ ((¬ (49152 : Int32) ≤ a1) → ok_R_hasRam M0 ∧ (∀ x23 : Int32, x23 = f_R_hasRam_v M0 → (((x23 = 0) → True) ∧ ((¬ x23 = 0) → ∀ x24 : Int32, x24 = f_R_bankRam_v M0 → (((¬ (M0 0 10) = (2 : Int32)) → ok_R_put_j3 M0 a1 x24 a2) ∧ (((M0 0 10) = (2 : Int32)) → ok_R_put_j3 M0 a1 x24 (a2 &&& (15 : Int32)))))))))) ∧ ((¬ (40960 : Int32) ≤ a1) → vp_in (a1 - (32768 : Int32)) 8192))) ∧ ((¬ (32768 : Int32) ≤ a1) → ok_R_controls M0 a1 a2))
set_option maxRecDepth 100000 in
set_option maxHeartbeats 4000000 in
theorem sp_R_put (M0 : Mem) (a1 : Int32) (a2 : Int32) (Q : Mem → Prop) (hok : ok_R_put M0 a1 a2) (hQ : Q (f_R_put_m M0 a1 a2)) : wp_R_put M0 a1 a2 Q := by
  unfold wp_R_put
  unfold ok_R_put at hok
  unfold f_R_put_m at hQ
  refine ⟨fun hc => ?_, fun hc => ?_⟩
  · simp only [if_pos hc] at hQ
    have hok := hok.1 hc
    refine ⟨fun hc => ?_, fun hc => ?_⟩
    · simp only [if_pos hc] at hQ
      have hok := hok.1 hc
      refine ⟨fun hc => ?_, fun hc => ?_⟩
      · simp only [if_pos hc] at hQ
        have hok := hok.1 hc
        refine ⟨fun hc => ?_, fun hc => ?_⟩
        · simp only [if_pos hc] at hQ
          have hok := hok.1 hc
          refine ⟨fun hc => ?_, fun hc => ?_⟩
          · simp only [if_pos hc] at hQ
            have hok := hok.1 hc
            refine ⟨fun hc => ?_, fun hc => ?_⟩
            · simp only [if_pos hc] at hQ
              have hok := hok.1 hc
              exact sp_R_put_j2 _ _ _ _ hok hQ
            · simp only [if_neg hc] at hQ
              have hok := hok.2 hc
              refine ⟨fun hc => ?_, fun hc => ?_⟩
              · simp only [if_pos hc] at hQ
                have hok := hok.1 hc
                exact sp_R_put_j2 _ _ _ _ hok hQ
              · simp only [if_neg hc] at hQ
                have hok := hok.2 hc
                refine ⟨hok, ?_⟩
                intro M20 h_; subst h_
                exact sp_R_put_j1 _ _ hQ
          · simp only [if_neg hc] at hQ
            have hok := hok.2 hc
            refine ⟨hok, ?_⟩
            intro M21 h_; subst h_
            exact sp_R_put_j1 _ _ hQ
        · simp only [if_neg hc] at hQ
          have hok := hok.2 hc
          refine ⟨hok, ?_⟩
          intro M22 h_; subst h_
          exact sp_R_put_j1 _ _ hQ
      · simp only [if_neg hc] at hQ
        have hok := hok.2 hc
        refine sp_R_hasRam _ _ hok.1 ?_
        have hok := hok.2 _ rfl
        refine ⟨fun hc => ?_, fun hc => ?_⟩
        · simp only [if_pos hc] at hQ
          exact sp_R_put_j1 _ _ hQ
        · simp only [if_neg hc] at hQ
          have hok := hok.2 hc
          refine sp_R_bankRam _ _ ?_
          have hok := hok _ rfl
          refine ⟨fun hc => ?_, fun hc => ?_⟩
          · simp only [if_neg hc] at hQ
            have hok := hok.1 hc
            exact sp_R_put_j3 _ _ _ _ _ hok hQ
          · simp only [if_pos hc] at hQ
            have hok := hok.2 hc
            exact sp_R_put_j3 _ _ _ _ _ hok hQ
    · simp only [if_neg hc] at hQ
      have hok := hok.2 hc
      refine ⟨hok, ?_⟩
      intro M29 h_; subst h_
      exact sp_R_put_j1 _ _ hQ
  · simp only [if_neg hc] at hQ
    have hok := hok.2 hc
    refine sp_R_controls _ _ _ _ hok ?_
    exact sp_R_put_j1 _ _ hQ
def f_R_reads_v (M0 : Mem) (a1 : Int32) : Int32 := let M1 : Mem := mst M0 0 20 ((M0 0 20) + (1 : Int32)); let x2 : Int32 := f_R_get_v M1 (a1 &&& (65535 : Int32)); x2
def f_R_reads_m (M0 : Mem) (a1 : Int32) : Mem := let M1 : Mem := mst M0 0 20 ((M0 0 20) + (1 : Int32)); M1
def ok_R_reads (M0 : Mem) (a1 : Int32) : Prop := ∀ M1 : Mem, M1 = mst M0 0 20 ((M0 0 20) + (1 : Int32)) → ok_R_get M1 (a1 &&& (65535 : Int32))
set_option maxRecDepth 100000 in
set_option maxHeartbeats 4000000 in
theorem sp_R_reads (M0 : Mem) (a1 : Int32) (Q : Int32 → Mem → Prop) (hok : ok_R_reads M0 a1) (hQ : Q (f_R_reads_v M0 a1) (f_R_reads_m M0 a1)) : wp_R_reads M0 a1 Q := by
  unfold wp_R_reads
  unfold ok_R_reads at hok
  unfold f_R_reads_v f_R_reads_m at hQ
  intro M1 h_; subst h_
  have hok := hok _ rfl
  refine sp_R_get _ _ _ hok ?_
  exact hQ
def f_R_writes_m (M0 : Mem) (a1 : Int32) (a2 : Int32) : Mem := let M1 : Mem := mst M0 0 20 ((M0 0 20) + (1 : Int32)); let M2 : Mem := f_R_put_m M1 (a1 &&& (65535 : Int32)) (a2 &&& (255 : Int32)); M2
def ok_R_writes (M0 : Mem) (a1 : Int32) (a2 : Int32) : Prop := ∀ M1 : Mem, M1 = mst M0 0 20 ((M0 0 20) + (1 : Int32)) → ok_R_put M1 (a1 &&& (65535 : Int32)) (a2 &&& (255 : Int32))
set_option maxRecDepth 100000 in
set_option maxHeartbeats 4000000 in
theorem sp_R_writes (M0 : Mem) (a1 : Int32) (a2 : Int32) (Q : Mem → Prop) (hok : ok_R_writes M0 a1 a2) (hQ : Q (f_R_writes_m M0 a1 a2)) : wp_R_writes M0 a1 a2 Q := by
  unfold wp_R_writes
  unfold ok_R_writes at hok
  unfold f_R_writes_m at hQ
  intro M1 h_; subst h_
  have hok := hok _ rfl
  refine sp_R_put _ _ _ _ hok ?_
  exact hQ
def f_R_next_v (M0 : Mem) : Int32 := let x1 : Int32 := f_R_reads_v M0 (M0 0 19); x1
def f_R_next_m (M0 : Mem) : Mem := let M2 : Mem := f_R_reads_m M0 (M0 0 19); let M3 : Mem := mst M2 0 19 (((M2 0 19) + (1 : Int32)) &&& (65535 : Int32)); M3
def ok_R_next (M0 : Mem) : Prop := ok_R_reads M0 (M0 0 19)
set_option maxRecDepth 100000 in
set_option maxHeartbeats 4000000 in
theorem sp_R_next (M0 : Mem) (Q : Int32 → Mem → Prop) (hok : ok_R_next M0) (hQ : Q (f_R_next_v M0) (f_R_next_m M0)) : wp_R_next M0 Q := by
  unfold wp_R_next
  unfold ok_R_next at hok
  unfold f_R_next_v f_R_next_m at hQ
  refine sp_R_reads _ _ _ hok ?_
  intro M3 h_; subst h_
  exact hQ
def f_R_nextWord_v (M0 : Mem) : Int32 := let x1 : Int32 := f_R_next_v M0; let M2 : Mem := f_R_next_m M0; let x3 : Int32 := f_R_next_v M2; (x1 ||| (x3 <<< ((8 : Int32) &&& (31 : Int32))))
def f_R_nextWord_m (M0 : Mem) : Mem := let M2 : Mem := f_R_next_m M0; let M4 : Mem := f_R_next_m M2; M4
def ok_R_nextWord (M0 : Mem) : Prop := ok_R_next M0 ∧ (∀ x1 : Int32, x1 = f_R_next_v M0 → ∀ M2 : Mem, M2 = f_R_next_m M0 → ok_R_next M2)
set_option maxRecDepth 100000 in
set_option maxHeartbeats 4000000 in
theorem sp_R_nextWord (M0 : Mem) (Q : Int32 → Mem → Prop) (hok : ok_R_nextWord M0) (hQ : Q (f_R_nextWord_v M0) (f_R_nextWord_m M0)) : wp_R_nextWord M0 Q := by
  unfold wp_R_nextWord
  unfold ok_R_nextWord at hok
  unfold f_R_nextWord_v f_R_nextWord_m at hQ
  refine sp_R_next _ _ hok.1 ?_
  have hok := hok.2 _ rfl _ rfl
  refine sp_R_next _ _ hok ?_
  exact hQ
def f_R_signed_j1_v (x2 : Int32) : Int32 := x2
set_option maxRecDepth 100000 in
set_option maxHeartbeats 4000000 in
theorem sp_R_signed_j1 (x2 : Int32) (Q : Int32 → Prop) (hQ : Q (f_R_signed_j1_v x2)) : wp_R_signed_j1 x2 Q := by
  unfold wp_R_signed_j1
  unfold f_R_signed_j1_v at hQ
  exact hQ
def f_R_signed_v (M0 : Mem) (a1 : Int32) : Int32 := (if a1 ≤ (127 : Int32) then (f_R_signed_j1_v a1) else (f_R_signed_j1_v (a1 - (256 : Int32))))
set_option maxRecDepth 100000 in
set_option maxHeartbeats 4000000 in
theorem sp_R_signed (M0 : Mem) (a1 : Int32) (Q : Int32 → Prop) (hQ : Q (f_R_signed_v M0 a1)) : wp_R_signed M0 a1 Q := by
  unfold wp_R_signed
  unfold f_R_signed_v at hQ
  refine ⟨fun hc => ?_, fun hc => ?_⟩
  · simp only [if_pos hc] at hQ
    exact sp_R_signed_j1 _ _ hQ
  · simp only [if_neg hc] at hQ
    exact sp_R_signed_j1 _ _ hQ
def f_R_pair_j1_v (x2 : Int32) : Int32 := x2
set_option maxRecDepth 100000 in
set_option maxHeartbeats 4000000 in
theorem sp_R_pair_j1 (x2 : Int32) (Q : Int32 → Prop) (hQ : Q (f_R_pair_j1_v x2)) : wp_R_pair_j1 x2 Q := by
  unfold wp_R_pair_j1
  unfold f_R_pair_j1_v at hQ
  exact hQ
def f_R_pair_v (M0 : Mem) (a1 : Int32) : Int32 := (if a1 = (3 : Int32) then (f_R_pair_j1_v (M0 0 18)) else (f_R_pair_j1_v (((M0 8 (((2 : Int32) * a1)).toNatClampNeg) <<< ((8 : Int32) &&& (31 : Int32))) ||| (M0 8 ((((2 : Int32) * a1) + (1 : Int32))).toNatClampNeg))))
def ok_R_pair (M0 : Mem) (a1 : Int32) : Prop := (((¬ a1 = (3 : Int32)) → vp_in ((2 : Int32) * a1) 8 ∧ (vp_in (((2 : Int32) * a1) + (1 : Int32)) 8)) ∧ ((a1 = (3 : Int32)) → True))
set_option maxRecDepth 100000 in
set_option maxHeartbeats 4000000 in
theorem sp_R_pair (M0 : Mem) (a1 : Int32) (Q : Int32 → Prop) (hok : ok_R_pair M0 a1) (hQ : Q (f_R_pair_v M0 a1)) : wp_R_pair M0 a1 Q := by
  unfold wp_R_pair
  unfold ok_R_pair at hok
  unfold f_R_pair_v at hQ
  refine ⟨fun hc => ?_, fun hc => ?_⟩
  · simp only [if_neg hc] at hQ
    have hok := hok.1 hc
    refine ⟨hok.1, ?_⟩
    have hok := hok.2
    refine ⟨hok, ?_⟩
    exact sp_R_pair_j1 _ _ hQ
  · simp only [if_pos hc] at hQ
    exact sp_R_pair_j1 _ _ hQ
def f_R_setPair_j1_m (M5 : Mem) : Mem := M5
set_option maxRecDepth 100000 in
set_option maxHeartbeats 4000000 in
theorem sp_R_setPair_j1 (M5 : Mem) (Q : Mem → Prop) (hQ : Q (f_R_setPair_j1_m M5)) : wp_R_setPair_j1 M5 Q := by
  unfold wp_R_setPair_j1
  unfold f_R_setPair_j1_m at hQ
  exact hQ
def f_R_setPair_m (M0 : Mem) (a1 : Int32) (a2 : Int32) : Mem := (if a1 = (3 : Int32) then let M8 : Mem := mst M0 0 18 (a2 &&& (65535 : Int32)); (f_R_setPair_j1_m M8) else let M6 : Mem := mst M0 8 (((2 : Int32) * a1)).toNatClampNeg ((a2 >>> ((8 : Int32) &&& (31 : Int32))) &&& (255 : Int32)); let M7 : Mem := mst M6 8 ((((2 : Int32) * a1) + (1 : Int32))).toNatClampNeg (a2 &&& (255 : Int32)); (f_R_setPair_j1_m M7))
def ok_R_setPair (M0 : Mem) (a1 : Int32) (a2 : Int32) : Prop := (((¬ a1 = (3 : Int32)) → vp_in ((2 : Int32) * a1) 8 ∧ (∀ M6 : Mem, M6 = mst M0 8 (((2 : Int32) * a1)).toNatClampNeg ((a2 >>> ((8 : Int32) &&& (31 : Int32))) &&& (255 : Int32)) → vp_in (((2 : Int32) * a1) + (1 : Int32)) 8)) ∧ ((a1 = (3 : Int32)) → True))
set_option maxRecDepth 100000 in
set_option maxHeartbeats 4000000 in
theorem sp_R_setPair (M0 : Mem) (a1 : Int32) (a2 : Int32) (Q : Mem → Prop) (hok : ok_R_setPair M0 a1 a2) (hQ : Q (f_R_setPair_m M0 a1 a2)) : wp_R_setPair M0 a1 a2 Q := by
  unfold wp_R_setPair
  unfold ok_R_setPair at hok
  unfold f_R_setPair_m at hQ
  refine ⟨fun hc => ?_, fun hc => ?_⟩
  · simp only [if_neg hc] at hQ
    have hok := hok.1 hc
    refine ⟨hok.1, ?_⟩
    have hok := hok.2
    intro M6 h_; subst h_
    have hok := hok _ rfl
    refine ⟨hok, ?_⟩
    intro M7 h_; subst h_
    exact sp_R_setPair_j1 _ _ hQ
  · simp only [if_pos hc] at hQ
    intro M8 h_; subst h_
    exact sp_R_setPair_j1 _ _ hQ
def f_R_operand_j1_v (x6 : Int32) (M7 : Mem) : Int32 := x6
def f_R_operand_j1_m (x6 : Int32) (M7 : Mem) : Mem := M7
set_option maxRecDepth 100000 in
set_option maxHeartbeats 4000000 in
theorem sp_R_operand_j1 (x6 : Int32) (M7 : Mem) (Q : Int32 → Mem → Prop) (hQ : Q (f_R_operand_j1_v x6 M7) (f_R_operand_j1_m x6 M7)) : wp_R_operand_j1 x6 M7 Q := by
  unfold wp_R_operand_j1
  unfold f_R_operand_j1_v f_R_operand_j1_m at hQ
  exact hQ
def f_R_operand_v (M0 : Mem) (a1 : Int32) : Int32 := (if a1 = (6 : Int32) then let x8 : Int32 := f_R_pair_v M0 (2 : Int32); let x9 : Int32 := f_R_reads_v M0 x8; let M10 : Mem := f_R_reads_m M0 x8; (f_R_operand_j1_v x9 M10) else (f_R_operand_j1_v (M0 8 a1.toNatClampNeg) M0))
def f_R_operand_m (M0 : Mem) (a1 : Int32) : Mem := (if a1 = (6 : Int32) then let x8 : Int32 := f_R_pair_v M0 (2 : Int32); let x9 : Int32 := f_R_reads_v M0 x8; let M10 : Mem := f_R_reads_m M0 x8; (f_R_operand_j1_m x9 M10) else (f_R_operand_j1_m (M0 8 a1.toNatClampNeg) M0))
def ok_R_operand (M0 : Mem) (a1 : Int32) : Prop := (((¬ a1 = (6 : Int32)) → vp_in a1 8) ∧ ((a1 = (6 : Int32)) → ok_R_pair M0 (2 : Int32) ∧ (∀ x8 : Int32, x8 = f_R_pair_v M0 (2 : Int32) → ok_R_reads M0 x8)))
set_option maxRecDepth 100000 in
set_option maxHeartbeats 4000000 in
theorem sp_R_operand (M0 : Mem) (a1 : Int32) (Q : Int32 → Mem → Prop) (hok : ok_R_operand M0 a1) (hQ : Q (f_R_operand_v M0 a1) (f_R_operand_m M0 a1)) : wp_R_operand M0 a1 Q := by
  unfold wp_R_operand
  unfold ok_R_operand at hok
  unfold f_R_operand_v f_R_operand_m at hQ
  refine ⟨fun hc => ?_, fun hc => ?_⟩
  · simp only [if_neg hc] at hQ
    have hok := hok.1 hc
    refine ⟨hok, ?_⟩
    exact sp_R_operand_j1 _ _ _ hQ
  · simp only [if_pos hc] at hQ
    have hok := hok.2 hc
    refine sp_R_pair _ _ _ hok.1 ?_
    have hok := hok.2 _ rfl
    refine sp_R_reads _ _ _ hok ?_
    exact sp_R_operand_j1 _ _ _ hQ
def f_R_setOperand_j1_m (M5 : Mem) : Mem := M5
set_option maxRecDepth 100000 in
set_option maxHeartbeats 4000000 in
theorem sp_R_setOperand_j1 (M5 : Mem) (Q : Mem → Prop) (hQ : Q (f_R_setOperand_j1_m M5)) : wp_R_setOperand_j1 M5 Q := by
  unfold wp_R_setOperand_j1
  unfold f_R_setOperand_j1_m at hQ
  exact hQ
def f_R_setOperand_m (M0 : Mem) (a1 : Int32) (a2 : Int32) : Mem := (if a1 = (6 : Int32) then let x7 : Int32 := f_R_pair_v M0 (2 : Int32); let M8 : Mem := f_R_writes_m M0 x7 a2; (f_R_setOperand_j1_m M8) else let M6 : Mem := mst M0 8 a1.toNatClampNeg (a2 &&& (255 : Int32)); (f_R_setOperand_j1_m M6))
def ok_R_setOperand (M0 : Mem) (a1 : Int32) (a2 : Int32) : Prop := (((¬ a1 = (6 : Int32)) → vp_in a1 8) ∧ ((a1 = (6 : Int32)) → ok_R_pair M0 (2 : Int32) ∧ (∀ x7 : Int32, x7 = f_R_pair_v M0 (2 : Int32) → ok_R_writes M0 x7 a2)))
set_option maxRecDepth 100000 in
set_option maxHeartbeats 4000000 in
theorem sp_R_setOperand (M0 : Mem) (a1 : Int32) (a2 : Int32) (Q : Mem → Prop) (hok : ok_R_setOperand M0 a1 a2) (hQ : Q (f_R_setOperand_m M0 a1 a2)) : wp_R_setOperand M0 a1 a2 Q := by
  unfold wp_R_setOperand
  unfold ok_R_setOperand at hok
  unfold f_R_setOperand_m at hQ
  refine ⟨fun hc => ?_, fun hc => ?_⟩
  · simp only [if_neg hc] at hQ
    have hok := hok.1 hc
    refine ⟨hok, ?_⟩
    intro M6 h_; subst h_
    exact sp_R_setOperand_j1 _ _ hQ
  · simp only [if_pos hc] at hQ
    have hok := hok.2 hc
    refine sp_R_pair _ _ _ hok.1 ?_
    have hok := hok.2 _ rfl
    refine sp_R_writes _ _ _ _ hok ?_
    exact sp_R_setOperand_j1 _ _ hQ
def f_R_push_m (M0 : Mem) (a1 : Int32) : Mem := let M1 : Mem := mst M0 0 18 (((M0 0 18) - (1 : Int32)) &&& (65535 : Int32)); let M2 : Mem := f_R_writes_m M1 (M1 0 18) (a1 >>> ((8 : Int32) &&& (31 : Int32))); let M3 : Mem := mst M2 0 18 (((M2 0 18) - (1 : Int32)) &&& (65535 : Int32)); let M4 : Mem := f_R_writes_m M3 (M3 0 18) a1; M4
def ok_R_push (M0 : Mem) (a1 : Int32) : Prop := ∀ M1 : Mem, M1 = mst M0 0 18 (((M0 0 18) - (1 : Int32)) &&& (65535 : Int32)) → ok_R_writes M1 (M1 0 18) (a1 >>> ((8 : Int32) &&& (31 : Int32))) ∧ (∀ M2 : Mem, M2 = f_R_writes_m M1 (M1 0 18) (a1 >>> ((8 : Int32) &&& (31 : Int32))) → ∀ M3 : Mem, M3 = mst M2 0 18 (((M2 0 18) - (1 : Int32)) &&& (65535 : Int32)) → ok_R_writes M3 (M3 0 18) a1)
set_option maxRecDepth 100000 in
set_option maxHeartbeats 4000000 in
theorem sp_R_push (M0 : Mem) (a1 : Int32) (Q : Mem → Prop) (hok : ok_R_push M0 a1) (hQ : Q (f_R_push_m M0 a1)) : wp_R_push M0 a1 Q := by
  unfold wp_R_push
  unfold ok_R_push at hok
  unfold f_R_push_m at hQ
  intro M1 h_; subst h_
  have hok := hok _ rfl
  refine sp_R_writes _ _ _ _ hok.1 ?_
  have hok := hok.2 _ rfl
  intro M3 h_; subst h_
  have hok := hok _ rfl
  refine sp_R_writes _ _ _ _ hok ?_
  exact hQ
def f_R_pop_v (M0 : Mem) : Int32 := let x1 : Int32 := f_R_reads_v M0 (M0 0 18); let M2 : Mem := f_R_reads_m M0 (M0 0 18); let M3 : Mem := mst M2 0 18 (((M2 0 18) + (1 : Int32)) &&& (65535 : Int32)); let x4 : Int32 := f_R_reads_v M3 (M3 0 18); ((x4 <<< ((8 : Int32) &&& (31 : Int32))) ||| x1)
def f_R_pop_m (M0 : Mem) : Mem := let M2 : Mem := f_R_reads_m M0 (M0 0 18); let M3 : Mem := mst M2 0 18 (((M2 0 18) + (1 : Int32)) &&& (65535 : Int32)); let M5 : Mem := f_R_reads_m M3 (M3 0 18); let M6 : Mem := mst M5 0 18 (((M5 0 18) + (1 : Int32)) &&& (65535 : Int32)); M6
def ok_R_pop (M0 : Mem) : Prop := ok_R_reads M0 (M0 0 18) ∧ (∀ x1 : Int32, x1 = f_R_reads_v M0 (M0 0 18) → ∀ M2 : Mem, M2 = f_R_reads_m M0 (M0 0 18) → ∀ M3 : Mem, M3 = mst M2 0 18 (((M2 0 18) + (1 : Int32)) &&& (65535 : Int32)) → ok_R_reads M3 (M3 0 18))
set_option maxRecDepth 100000 in
set_option maxHeartbeats 4000000 in
theorem sp_R_pop (M0 : Mem) (Q : Int32 → Mem → Prop) (hok : ok_R_pop M0) (hQ : Q (f_R_pop_v M0) (f_R_pop_m M0)) : wp_R_pop M0 Q := by
  unfold wp_R_pop
  unfold ok_R_pop at hok
  unfold f_R_pop_v f_R_pop_m at hQ
  refine sp_R_reads _ _ _ hok.1 ?_
  have hok := hok.2 _ rfl _ rfl
  intro M3 h_; subst h_
  have hok := hok _ rfl
  refine sp_R_reads _ _ _ hok ?_
  intro M6 h_; subst h_
  exact hQ
def f_R_is_j1_v (x2 : Int32) : Int32 := x2
def ok_R_is_j1 (x2 : Int32) : Prop := isB x2
set_option maxRecDepth 100000 in
set_option maxHeartbeats 4000000 in
theorem sp_R_is_j1 (x2 : Int32) (Q : Int32 → Prop) (hok : ok_R_is_j1 x2) (hQ : Q (f_R_is_j1_v x2)) : wp_R_is_j1 x2 Q := by
  unfold wp_R_is_j1
  unfold ok_R_is_j1 at hok
  unfold f_R_is_j1_v at hQ
  refine ⟨hok, ?_⟩
  exact hQ
def f_R_is_v (M0 : Mem) (a1 : Int32) : Int32 := (if ((M0 8 6) &&& a1) ≤ 0 then (f_R_is_j1_v (0 : Int32)) else (f_R_is_j1_v (1 : Int32)))
def ok_R_is (M0 : Mem) (a1 : Int32) : Prop := (((((M0 8 6) &&& a1) ≤ 0) → ok_R_is_j1 (0 : Int32)) ∧ ((¬ ((M0 8 6) &&& a1) ≤ 0) → ok_R_is_j1 (1 : Int32)))
set_option maxRecDepth 100000 in
set_option maxHeartbeats 4000000 in
theorem sp_R_is (M0 : Mem) (a1 : Int32) (Q : Int32 → Prop) (hok : ok_R_is M0 a1) (hQ : Q (f_R_is_v M0 a1)) : wp_R_is M0 a1 Q := by
  unfold wp_R_is
  unfold ok_R_is at hok
  unfold f_R_is_v at hQ
  refine ⟨fun hc => ?_, fun hc => ?_⟩
  · simp only [if_pos hc] at hQ
    have hok := hok.1 hc
    exact sp_R_is_j1 _ _ hok hQ
  · simp only [if_neg hc] at hQ
    have hok := hok.2 hc
    exact sp_R_is_j1 _ _ hok hQ
def f_R_flag_j1_m (M0 : Mem) (x3 : Int32) : Mem := let M4 : Mem := mst M0 8 6 x3; M4
set_option maxRecDepth 100000 in
set_option maxHeartbeats 4000000 in
theorem sp_R_flag_j1 (M0 : Mem) (x3 : Int32) (Q : Mem → Prop) (hQ : Q (f_R_flag_j1_m M0 x3)) : wp_R_flag_j1 M0 x3 Q := by
  unfold wp_R_flag_j1
  unfold f_R_flag_j1_m at hQ
  intro M4 h_; subst h_
  exact hQ
def f_R_flag_m (M0 : Mem) (a1 : Int32) (a2 : Int32) : Mem := (if a2 = 0 then (f_R_flag_j1_m M0 ((M0 8 6) &&& (a1 ^^^ (-1 : Int32)))) else (f_R_flag_j1_m M0 ((M0 8 6) ||| a1)))
set_option maxRecDepth 100000 in
set_option maxHeartbeats 4000000 in
theorem sp_R_flag (M0 : Mem) (a1 : Int32) (a2 : Int32) (Q : Mem → Prop) (hQ : Q (f_R_flag_m M0 a1 a2)) : wp_R_flag M0 a1 a2 Q := by
  unfold wp_R_flag
  unfold f_R_flag_m at hQ
  refine ⟨fun hc => ?_, fun hc => ?_⟩
  · simp only [if_pos hc] at hQ
    exact sp_R_flag_j1 _ _ _ hQ
  · simp only [if_neg hc] at hQ
    exact sp_R_flag_j1 _ _ _ hQ
def f_R_flagged_j4_m (M0 : Mem) (x24 : Int32) (x36 : Int32) (x42 : Int32) (x45 : Int32) : Mem := let M46 : Mem := mst M0 8 6 (((x24 ||| x36) ||| x42) ||| x45); M46
set_option maxRecDepth 100000 in
set_option maxHeartbeats 4000000 in
theorem sp_R_flagged_j4 (M0 : Mem) (x24 : Int32) (x36 : Int32) (x42 : Int32) (x45 : Int32) (Q : Mem → Prop) (hQ : Q (f_R_flagged_j4_m M0 x24 x36 x42 x45)) : wp_R_flagged_j4 M0 x24 x36 x42 x45 Q := by
  unfold wp_R_flagged_j4
  unfold f_R_flagged_j4_m at hQ
  intro M46 h_; subst h_
  exact hQ
def f_R_flagged_j3_m (M0 : Mem) (a4 : Int32) (x24 : Int32) (x36 : Int32) (x42 : Int32) : Mem := (if a4 = 0 then (f_R_flagged_j4_m M0 x24 x36 x42 (0 : Int32)) else (f_R_flagged_j4_m M0 x24 x36 x42 (16 : Int32)))
set_option maxRecDepth 100000 in
set_option maxHeartbeats 4000000 in
theorem sp_R_flagged_j3 (M0 : Mem) (a4 : Int32) (x24 : Int32) (x36 : Int32) (x42 : Int32) (Q : Mem → Prop) (hQ : Q (f_R_flagged_j3_m M0 a4 x24 x36 x42)) : wp_R_flagged_j3 M0 a4 x24 x36 x42 Q := by
  unfold wp_R_flagged_j3
  unfold f_R_flagged_j3_m at hQ
  refine ⟨fun hc => ?_, fun hc => ?_⟩
  · simp only [if_pos hc] at hQ
    exact sp_R_flagged_j4 _ _ _ _ _ _ hQ
  · simp only [if_neg hc] at hQ
    exact sp_R_flagged_j4 _ _ _ _ _ _ hQ
def f_R_flagged_j2_m (M0 : Mem) (a3 : Int32) (a4 : Int32) (x24 : Int32) (x36 : Int32) : Mem := (if a3 = 0 then (f_R_flagged_j3_m M0 a4 x24 x36 (0 : Int32)) else (f_R_flagged_j3_m M0 a4 x24 x36 (32 : Int32)))
set_option maxRecDepth 100000 in
set_option maxHeartbeats 4000000 in
theorem sp_R_flagged_j2 (M0 : Mem) (a3 : Int32) (a4 : Int32) (x24 : Int32) (x36 : Int32) (Q : Mem → Prop) (hQ : Q (f_R_flagged_j2_m M0 a3 a4 x24 x36)) : wp_R_flagged_j2 M0 a3 a4 x24 x36 Q := by
  unfold wp_R_flagged_j2
  unfold f_R_flagged_j2_m at hQ
  refine ⟨fun hc => ?_, fun hc => ?_⟩
  · simp only [if_pos hc] at hQ
    exact sp_R_flagged_j3 _ _ _ _ _ _ hQ
  · simp only [if_neg hc] at hQ
    exact sp_R_flagged_j3 _ _ _ _ _ _ hQ
def f_R_flagged_j1_m (M0 : Mem) (a2 : Int32) (a3 : Int32) (a4 : Int32) (x24 : Int32) : Mem := (if a2 = 0 then (f_R_flagged_j2_m M0 a3 a4 x24 (0 : Int32)) else (f_R_flagged_j2_m M0 a3 a4 x24 (64 : Int32)))
set_option maxRecDepth 100000 in
set_option maxHeartbeats 4000000 in
theorem sp_R_flagged_j1 (M0 : Mem) (a2 : Int32) (a3 : Int32) (a4 : Int32) (x24 : Int32) (Q : Mem → Prop) (hQ : Q (f_R_flagged_j1_m M0 a2 a3 a4 x24)) : wp_R_flagged_j1 M0 a2 a3 a4 x24 Q := by
  unfold wp_R_flagged_j1
  unfold f_R_flagged_j1_m at hQ
  refine ⟨fun hc => ?_, fun hc => ?_⟩
  · simp only [if_pos hc] at hQ
    exact sp_R_flagged_j2 _ _ _ _ _ _ hQ
  · simp only [if_neg hc] at hQ
    exact sp_R_flagged_j2 _ _ _ _ _ _ hQ
def f_R_flagged_m (M0 : Mem) (a1 : Int32) (a2 : Int32) (a3 : Int32) (a4 : Int32) : Mem := (if a1 = 0 then (f_R_flagged_j1_m M0 a2 a3 a4 (0 : Int32)) else (f_R_flagged_j1_m M0 a2 a3 a4 (128 : Int32)))
set_option maxRecDepth 100000 in
set_option maxHeartbeats 4000000 in
theorem sp_R_flagged (M0 : Mem) (a1 : Int32) (a2 : Int32) (a3 : Int32) (a4 : Int32) (Q : Mem → Prop) (hQ : Q (f_R_flagged_m M0 a1 a2 a3 a4)) : wp_R_flagged M0 a1 a2 a3 a4 Q := by
  unfold wp_R_flagged
  unfold f_R_flagged_m at hQ
  refine ⟨fun hc => ?_, fun hc => ?_⟩
  · simp only [if_pos hc] at hQ
    exact sp_R_flagged_j1 _ _ _ _ _ _ hQ
  · simp only [if_neg hc] at hQ
    exact sp_R_flagged_j1 _ _ _ _ _ _ hQ
def f_R_holds_j3_v (x16 : Int32) : Int32 := x16
def ok_R_holds_j3 (x16 : Int32) : Prop := isB x16
set_option maxRecDepth 100000 in
set_option maxHeartbeats 4000000 in
theorem sp_R_holds_j3 (x16 : Int32) (Q : Int32 → Prop) (hok : ok_R_holds_j3 x16) (hQ : Q (f_R_holds_j3_v x16)) : wp_R_holds_j3 x16 Q := by
  unfold wp_R_holds_j3
  unfold ok_R_holds_j3 at hok
  unfold f_R_holds_j3_v at hQ
  refine ⟨hok, ?_⟩
  exact hQ
def f_R_holds_j2_v (x10 : Int32) (x14 : Int32) : Int32 := (if x10 = x14 then (f_R_holds_j3_v (1 : Int32)) else (f_R_holds_j3_v (0 : Int32)))
def ok_R_holds_j2 (x10 : Int32) (x14 : Int32) : Prop := (((¬ x10 = x14) → ok_R_holds_j3 (0 : Int32)) ∧ ((x10 = x14) → ok_R_holds_j3 (1 : Int32)))
set_option maxRecDepth 100000 in
set_option maxHeartbeats 4000000 in
theorem sp_R_holds_j2 (x10 : Int32) (x14 : Int32) (Q : Int32 → Prop) (hok : ok_R_holds_j2 x10 x14) (hQ : Q (f_R_holds_j2_v x10 x14)) : wp_R_holds_j2 x10 x14 Q := by
  unfold wp_R_holds_j2
  unfold ok_R_holds_j2 at hok
  unfold f_R_holds_j2_v at hQ
  refine ⟨fun hc => ?_, fun hc => ?_⟩
  · simp only [if_neg hc] at hQ
    have hok := hok.1 hc
    exact sp_R_holds_j3 _ _ hok hQ
  · simp only [if_pos hc] at hQ
    have hok := hok.2 hc
    exact sp_R_holds_j3 _ _ hok hQ
def f_R_holds_j1_v (M0 : Mem) (a1 : Int32) (x9 : Int32) : Int32 := let x10 : Int32 := f_R_is_v M0 x9; (if (a1 &&& (1 : Int32)) = (1 : Int32) then (f_R_holds_j2_v x10 (1 : Int32)) else (f_R_holds_j2_v x10 (0 : Int32)))
def ok_R_holds_j1 (M0 : Mem) (a1 : Int32) (x9 : Int32) : Prop := ok_R_is M0 x9 ∧ (∀ x10 : Int32, x10 = f_R_is_v M0 x9 → (((¬ (a1 &&& (1 : Int32)) = (1 : Int32)) → ok_R_holds_j2 x10 (0 : Int32)) ∧ (((a1 &&& (1 : Int32)) = (1 : Int32)) → ok_R_holds_j2 x10 (1 : Int32))))
set_option maxRecDepth 100000 in
set_option maxHeartbeats 4000000 in
theorem sp_R_holds_j1 (M0 : Mem) (a1 : Int32) (x9 : Int32) (Q : Int32 → Prop) (hok : ok_R_holds_j1 M0 a1 x9) (hQ : Q (f_R_holds_j1_v M0 a1 x9)) : wp_R_holds_j1 M0 a1 x9 Q := by
  unfold wp_R_holds_j1
  unfold ok_R_holds_j1 at hok
  unfold f_R_holds_j1_v at hQ
  refine sp_R_is _ _ _ hok.1 ?_
  have hok := hok.2 _ rfl
  refine ⟨fun hc => ?_, fun hc => ?_⟩
  · simp only [if_neg hc] at hQ
    have hok := hok.1 hc
    exact sp_R_holds_j2 _ _ _ hok hQ
  · simp only [if_pos hc] at hQ
    have hok := hok.2 hc
    exact sp_R_holds_j2 _ _ _ hok hQ
def f_R_holds_v (M0 : Mem) (a1 : Int32) : Int32 := (if (2 : Int32) ≤ a1 then (f_R_holds_j1_v M0 a1 (16 : Int32)) else (f_R_holds_j1_v M0 a1 (128 : Int32)))
def ok_R_holds (M0 : Mem) (a1 : Int32) : Prop := ((((2 : Int32) ≤ a1) → ok_R_holds_j1 M0 a1 (16 : Int32)) ∧ ((¬ (2 : Int32) ≤ a1) → ok_R_holds_j1 M0 a1 (128 : Int32)))
set_option maxRecDepth 100000 in
set_option maxHeartbeats 4000000 in
theorem sp_R_holds (M0 : Mem) (a1 : Int32) (Q : Int32 → Prop) (hok : ok_R_holds M0 a1) (hQ : Q (f_R_holds_v M0 a1)) : wp_R_holds M0 a1 Q := by
  unfold wp_R_holds
  unfold ok_R_holds at hok
  unfold f_R_holds_v at hQ
  refine ⟨fun hc => ?_, fun hc => ?_⟩
  · simp only [if_pos hc] at hQ
    have hok := hok.1 hc
    exact sp_R_holds_j1 _ _ _ _ hok hQ
  · simp only [if_neg hc] at hQ
    have hok := hok.2 hc
    exact sp_R_holds_j1 _ _ _ _ hok hQ
def f_R_reckons_j2_m (M518 : Mem) : Mem := M518
set_option maxRecDepth 100000 in
set_option maxHeartbeats 4000000 in
theorem sp_R_reckons_j2 (M518 : Mem) (Q : Mem → Prop) (hQ : Q (f_R_reckons_j2_m M518)) : wp_R_reckons_j2 M518 Q := by
  unfold wp_R_reckons_j2
  unfold f_R_reckons_j2_m at hQ
  exact hQ
def f_R_reckons_j7_m (M617 : Mem) (x629 : Int32) (x635 : Int32) (x638 : Int32) : Mem := let M639 : Mem := f_R_flagged_m M617 x629 (1 : Int32) x635 x638; (f_R_reckons_j2_m M639)
set_option maxRecDepth 100000 in
set_option maxHeartbeats 4000000 in
theorem sp_R_reckons_j7 (M617 : Mem) (x629 : Int32) (x635 : Int32) (x638 : Int32) (Q : Mem → Prop) (hQ : Q (f_R_reckons_j7_m M617 x629 x635 x638)) : wp_R_reckons_j7 M617 x629 x635 x638 Q := by
  unfold wp_R_reckons_j7
  unfold f_R_reckons_j7_m at hQ
  refine sp_R_flagged _ _ _ _ _ _ ?_
  exact sp_R_reckons_j2 _ _ hQ
def f_R_reckons_j6_m (x592 : Int32) (M617 : Mem) (x629 : Int32) (x635 : Int32) : Mem := (if 0 ≤ x592 then (f_R_reckons_j7_m M617 x629 x635 (0 : Int32)) else (f_R_reckons_j7_m M617 x629 x635 (1 : Int32)))
set_option maxRecDepth 100000 in
set_option maxHeartbeats 4000000 in
theorem sp_R_reckons_j6 (x592 : Int32) (M617 : Mem) (x629 : Int32) (x635 : Int32) (Q : Mem → Prop) (hQ : Q (f_R_reckons_j6_m x592 M617 x629 x635)) : wp_R_reckons_j6 x592 M617 x629 x635 Q := by
  unfold wp_R_reckons_j6
  unfold f_R_reckons_j6_m at hQ
  refine ⟨fun hc => ?_, fun hc => ?_⟩
  · simp only [if_pos hc] at hQ
    exact sp_R_reckons_j7 _ _ _ _ _ hQ
  · simp only [if_neg hc] at hQ
    exact sp_R_reckons_j7 _ _ _ _ _ hQ
def f_R_reckons_j5_m (a2 : Int32) (x1 : Int32) (x346 : Int32) (x592 : Int32) (M617 : Mem) (x629 : Int32) : Mem := (if 0 ≤ (((x1 &&& (15 : Int32)) - (a2 &&& (15 : Int32))) - x346) then (f_R_reckons_j6_m x592 M617 x629 (0 : Int32)) else (f_R_reckons_j6_m x592 M617 x629 (1 : Int32)))
set_option maxRecDepth 100000 in
set_option maxHeartbeats 4000000 in
theorem sp_R_reckons_j5 (a2 : Int32) (x1 : Int32) (x346 : Int32) (x592 : Int32) (M617 : Mem) (x629 : Int32) (Q : Mem → Prop) (hQ : Q (f_R_reckons_j5_m a2 x1 x346 x592 M617 x629)) : wp_R_reckons_j5 a2 x1 x346 x592 M617 x629 Q := by
  unfold wp_R_reckons_j5
  unfold f_R_reckons_j5_m at hQ
  refine ⟨fun hc => ?_, fun hc => ?_⟩
  · simp only [if_pos hc] at hQ
    exact sp_R_reckons_j6 _ _ _ _ _ hQ
  · simp only [if_neg hc] at hQ
    exact sp_R_reckons_j6 _ _ _ _ _ hQ
def f_R_reckons_j4_m (a2 : Int32) (x1 : Int32) (x346 : Int32) (x592 : Int32) (M617 : Mem) : Mem := (if (x592 &&& (255 : Int32)) = 0 then (f_R_reckons_j5_m a2 x1 x346 x592 M617 (1 : Int32)) else (f_R_reckons_j5_m a2 x1 x346 x592 M617 (0 : Int32)))
set_option maxRecDepth 100000 in
set_option maxHeartbeats 4000000 in
theorem sp_R_reckons_j4 (a2 : Int32) (x1 : Int32) (x346 : Int32) (x592 : Int32) (M617 : Mem) (Q : Mem → Prop) (hQ : Q (f_R_reckons_j4_m a2 x1 x346 x592 M617)) : wp_R_reckons_j4 a2 x1 x346 x592 M617 Q := by
  unfold wp_R_reckons_j4
  unfold f_R_reckons_j4_m at hQ
  refine ⟨fun hc => ?_, fun hc => ?_⟩
  · simp only [if_neg hc] at hQ
    exact sp_R_reckons_j5 _ _ _ _ _ _ _ hQ
  · simp only [if_pos hc] at hQ
    exact sp_R_reckons_j5 _ _ _ _ _ _ _ hQ
def f_R_reckons_j3_m (M0 : Mem) (a1 : Int32) (a2 : Int32) (x1 : Int32) (x346 : Int32) : Mem := let x592 : Int32 := ((x1 - a2) - x346); (if a1 = (7 : Int32) then (f_R_reckons_j4_m a2 x1 x346 x592 M0) else let M640 : Mem := mst M0 8 7 (x592 &&& (255 : Int32)); (f_R_reckons_j4_m a2 x1 x346 x592 M640))
set_option maxRecDepth 100000 in
set_option maxHeartbeats 4000000 in
theorem sp_R_reckons_j3 (M0 : Mem) (a1 : Int32) (a2 : Int32) (x1 : Int32) (x346 : Int32) (Q : Mem → Prop) (hQ : Q (f_R_reckons_j3_m M0 a1 a2 x1 x346)) : wp_R_reckons_j3 M0 a1 a2 x1 x346 Q := by
  unfold wp_R_reckons_j3
  unfold f_R_reckons_j3_m at hQ
  intro x592 h_; subst h_
  refine ⟨fun hc => ?_, fun hc => ?_⟩
  · simp only [if_pos hc] at hQ
    exact sp_R_reckons_j4 _ _ _ _ _ _ hQ
  · simp only [if_neg hc] at hQ
    intro M640 h_; subst h_
    exact sp_R_reckons_j4 _ _ _ _ _ _ hQ
def f_R_reckons_j10_m (M654 : Mem) (x660 : Int32) (x663 : Int32) : Mem := let M664 : Mem := f_R_flagged_m M654 x660 (0 : Int32) x663 (0 : Int32); (f_R_reckons_j2_m M664)
set_option maxRecDepth 100000 in
set_option maxHeartbeats 4000000 in
theorem sp_R_reckons_j10 (M654 : Mem) (x660 : Int32) (x663 : Int32) (Q : Mem → Prop) (hQ : Q (f_R_reckons_j10_m M654 x660 x663)) : wp_R_reckons_j10 M654 x660 x663 Q := by
  unfold wp_R_reckons_j10
  unfold f_R_reckons_j10_m at hQ
  refine sp_R_flagged _ _ _ _ _ _ ?_
  exact sp_R_reckons_j2 _ _ hQ
def f_R_reckons_j9_m (a1 : Int32) (M654 : Mem) (x660 : Int32) : Mem := (if a1 = (4 : Int32) then (f_R_reckons_j10_m M654 x660 (1 : Int32)) else (f_R_reckons_j10_m M654 x660 (0 : Int32)))
set_option maxRecDepth 100000 in
set_option maxHeartbeats 4000000 in
theorem sp_R_reckons_j9 (a1 : Int32) (M654 : Mem) (x660 : Int32) (Q : Mem → Prop) (hQ : Q (f_R_reckons_j9_m a1 M654 x660)) : wp_R_reckons_j9 a1 M654 x660 Q := by
  unfold wp_R_reckons_j9
  unfold f_R_reckons_j9_m at hQ
  refine ⟨fun hc => ?_, fun hc => ?_⟩
  · simp only [if_neg hc] at hQ
    exact sp_R_reckons_j10 _ _ _ _ hQ
  · simp only [if_pos hc] at hQ
    exact sp_R_reckons_j10 _ _ _ _ hQ
def f_R_reckons_j8_m (M0 : Mem) (a1 : Int32) (x653 : Int32) : Mem := let M654 : Mem := mst M0 8 7 x653; (if (M654 8 7) = 0 then (f_R_reckons_j9_m a1 M654 (1 : Int32)) else (f_R_reckons_j9_m a1 M654 (0 : Int32)))
set_option maxRecDepth 100000 in
set_option maxHeartbeats 4000000 in
theorem sp_R_reckons_j8 (M0 : Mem) (a1 : Int32) (x653 : Int32) (Q : Mem → Prop) (hQ : Q (f_R_reckons_j8_m M0 a1 x653)) : wp_R_reckons_j8 M0 a1 x653 Q := by
  unfold wp_R_reckons_j8
  unfold f_R_reckons_j8_m at hQ
  intro M654 h_; subst h_
  refine ⟨fun hc => ?_, fun hc => ?_⟩
  · simp only [if_neg hc] at hQ
    exact sp_R_reckons_j9 _ _ _ _ hQ
  · simp only [if_pos hc] at hQ
    exact sp_R_reckons_j9 _ _ _ _ hQ
def f_R_reckons_j13_m (M666 : Mem) (x678 : Int32) (x684 : Int32) (x687 : Int32) : Mem := let M688 : Mem := f_R_flagged_m M666 x678 (0 : Int32) x684 x687; (f_R_reckons_j2_m M688)
set_option maxRecDepth 100000 in
set_option maxHeartbeats 4000000 in
theorem sp_R_reckons_j13 (M666 : Mem) (x678 : Int32) (x684 : Int32) (x687 : Int32) (Q : Mem → Prop) (hQ : Q (f_R_reckons_j13_m M666 x678 x684 x687)) : wp_R_reckons_j13 M666 x678 x684 x687 Q := by
  unfold wp_R_reckons_j13
  unfold f_R_reckons_j13_m at hQ
  refine sp_R_flagged _ _ _ _ _ _ ?_
  exact sp_R_reckons_j2 _ _ hQ
def f_R_reckons_j12_m (x665 : Int32) (M666 : Mem) (x678 : Int32) (x684 : Int32) : Mem := (if x665 ≤ (255 : Int32) then (f_R_reckons_j13_m M666 x678 x684 (0 : Int32)) else (f_R_reckons_j13_m M666 x678 x684 (1 : Int32)))
set_option maxRecDepth 100000 in
set_option maxHeartbeats 4000000 in
theorem sp_R_reckons_j12 (x665 : Int32) (M666 : Mem) (x678 : Int32) (x684 : Int32) (Q : Mem → Prop) (hQ : Q (f_R_reckons_j12_m x665 M666 x678 x684)) : wp_R_reckons_j12 x665 M666 x678 x684 Q := by
  unfold wp_R_reckons_j12
  unfold f_R_reckons_j12_m at hQ
  refine ⟨fun hc => ?_, fun hc => ?_⟩
  · simp only [if_pos hc] at hQ
    exact sp_R_reckons_j13 _ _ _ _ _ hQ
  · simp only [if_neg hc] at hQ
    exact sp_R_reckons_j13 _ _ _ _ _ hQ
def f_R_reckons_j11_m (a2 : Int32) (x1 : Int32) (x346 : Int32) (x665 : Int32) (M666 : Mem) (x678 : Int32) : Mem := (if (((x1 &&& (15 : Int32)) + (a2 &&& (15 : Int32))) + x346) ≤ (15 : Int32) then (f_R_reckons_j12_m x665 M666 x678 (0 : Int32)) else (f_R_reckons_j12_m x665 M666 x678 (1 : Int32)))
set_option maxRecDepth 100000 in
set_option maxHeartbeats 4000000 in
theorem sp_R_reckons_j11 (a2 : Int32) (x1 : Int32) (x346 : Int32) (x665 : Int32) (M666 : Mem) (x678 : Int32) (Q : Mem → Prop) (hQ : Q (f_R_reckons_j11_m a2 x1 x346 x665 M666 x678)) : wp_R_reckons_j11 a2 x1 x346 x665 M666 x678 Q := by
  unfold wp_R_reckons_j11
  unfold f_R_reckons_j11_m at hQ
  refine ⟨fun hc => ?_, fun hc => ?_⟩
  · simp only [if_pos hc] at hQ
    exact sp_R_reckons_j12 _ _ _ _ _ hQ
  · simp only [if_neg hc] at hQ
    exact sp_R_reckons_j12 _ _ _ _ _ hQ
def f_R_reckons_j1_m (M0 : Mem) (a1 : Int32) (a2 : Int32) (x1 : Int32) (x346 : Int32) : Mem := (if (2 : Int32) ≤ a1 then (if a1 = (2 : Int32) then (f_R_reckons_j3_m M0 a1 a2 x1 x346) else (if a1 = (3 : Int32) then (f_R_reckons_j3_m M0 a1 a2 x1 x346) else (if a1 = (7 : Int32) then (f_R_reckons_j3_m M0 a1 a2 x1 x346) else (if a1 = (4 : Int32) then (f_R_reckons_j8_m M0 a1 (x1 &&& a2)) else (if a1 = (5 : Int32) then (f_R_reckons_j8_m M0 a1 (x1 ^^^ a2)) else (f_R_reckons_j8_m M0 a1 (x1 ||| a2))))))) else let x665 : Int32 := ((x1 + a2) + x346); let M666 : Mem := mst M0 8 7 (x665 &&& (255 : Int32)); (if (M666 8 7) = 0 then (f_R_reckons_j11_m a2 x1 x346 x665 M666 (1 : Int32)) else (f_R_reckons_j11_m a2 x1 x346 x665 M666 (0 : Int32))))
set_option maxRecDepth 100000 in
set_option maxHeartbeats 4000000 in
theorem sp_R_reckons_j1 (M0 : Mem) (a1 : Int32) (a2 : Int32) (x1 : Int32) (x346 : Int32) (Q : Mem → Prop) (hQ : Q (f_R_reckons_j1_m M0 a1 a2 x1 x346)) : wp_R_reckons_j1 M0 a1 a2 x1 x346 Q := by
  unfold wp_R_reckons_j1
  unfold f_R_reckons_j1_m at hQ
  refine ⟨fun hc => ?_, fun hc => ?_⟩
  · simp only [if_pos hc] at hQ
    refine ⟨fun hc => ?_, fun hc => ?_⟩
    · simp only [if_pos hc] at hQ
      exact sp_R_reckons_j3 _ _ _ _ _ _ hQ
    · simp only [if_neg hc] at hQ
      refine ⟨fun hc => ?_, fun hc => ?_⟩
      · simp only [if_pos hc] at hQ
        exact sp_R_reckons_j3 _ _ _ _ _ _ hQ
      · simp only [if_neg hc] at hQ
        refine ⟨fun hc => ?_, fun hc => ?_⟩
        · simp only [if_neg hc] at hQ
          refine ⟨fun hc => ?_, fun hc => ?_⟩
          · simp only [if_neg hc] at hQ
            refine ⟨fun hc => ?_, fun hc => ?_⟩
            · simp only [if_neg hc] at hQ
              exact sp_R_reckons_j8 _ _ _ _ hQ
            · simp only [if_pos hc] at hQ
              exact sp_R_reckons_j8 _ _ _ _ hQ
          · simp only [if_pos hc] at hQ
            exact sp_R_reckons_j8 _ _ _ _ hQ
        · simp only [if_pos hc] at hQ
          exact sp_R_reckons_j3 _ _ _ _ _ _ hQ
  · simp only [if_neg hc] at hQ
    intro x665 h_; subst h_
    intro M666 h_; subst h_
    refine ⟨fun hc => ?_, fun hc => ?_⟩
    · simp only [if_neg hc] at hQ
      exact sp_R_reckons_j11 _ _ _ _ _ _ _ hQ
    · simp only [if_pos hc] at hQ
      exact sp_R_reckons_j11 _ _ _ _ _ _ _ hQ
def f_R_reckons_j14_m (M0 : Mem) (a1 : Int32) (a2 : Int32) (x1 : Int32) : Mem := (f_R_reckons_j1_m M0 a1 a2 x1 (0 : Int32))
set_option maxRecDepth 100000 in
set_option maxHeartbeats 4000000 in
theorem sp_R_reckons_j14 (M0 : Mem) (a1 : Int32) (a2 : Int32) (x1 : Int32) (Q : Mem → Prop) (hQ : Q (f_R_reckons_j14_m M0 a1 a2 x1)) : wp_R_reckons_j14 M0 a1 a2 x1 Q := by
  unfold wp_R_reckons_j14
  unfold f_R_reckons_j14_m at hQ
  exact sp_R_reckons_j1 _ _ _ _ _ _ hQ
def f_R_reckons_j15_m (M0 : Mem) (a1 : Int32) (a2 : Int32) (x1 : Int32) : Mem := (f_R_reckons_j1_m M0 a1 a2 x1 (1 : Int32))
set_option maxRecDepth 100000 in
set_option maxHeartbeats 4000000 in
theorem sp_R_reckons_j15 (M0 : Mem) (a1 : Int32) (a2 : Int32) (x1 : Int32) (Q : Mem → Prop) (hQ : Q (f_R_reckons_j15_m M0 a1 a2 x1)) : wp_R_reckons_j15 M0 a1 a2 x1 Q := by
  unfold wp_R_reckons_j15
  unfold f_R_reckons_j15_m at hQ
  exact sp_R_reckons_j1 _ _ _ _ _ _ hQ
def f_R_reckons_m (M0 : Mem) (a1 : Int32) (a2 : Int32) : Mem := let x1 : Int32 := (M0 8 7); let x2 : Int32 := f_R_is_v M0 (16 : Int32); (if x2 = 0 then (f_R_reckons_j14_m M0 a1 a2 x1) else (if a1 = (1 : Int32) then (f_R_reckons_j15_m M0 a1 a2 x1) else (if a1 = (3 : Int32) then (f_R_reckons_j15_m M0 a1 a2 x1) else (f_R_reckons_j14_m M0 a1 a2 x1))))
def ok_R_reckons (M0 : Mem) (a1 : Int32) (a2 : Int32) : Prop := ∀ x1 : Int32, x1 = (M0 8 7) → ok_R_is M0 (16 : Int32)
set_option maxRecDepth 100000 in
set_option maxHeartbeats 4000000 in
theorem sp_R_reckons (M0 : Mem) (a1 : Int32) (a2 : Int32) (Q : Mem → Prop) (hok : ok_R_reckons M0 a1 a2) (hQ : Q (f_R_reckons_m M0 a1 a2)) : wp_R_reckons M0 a1 a2 Q := by
  unfold wp_R_reckons
  unfold ok_R_reckons at hok
  unfold f_R_reckons_m at hQ
  intro x1 h_; subst h_
  have hok := hok _ rfl
  refine sp_R_is _ _ _ hok ?_
  refine ⟨fun hc => ?_, fun hc => ?_⟩
  · simp only [if_pos hc] at hQ
    exact sp_R_reckons_j14 _ _ _ _ _ hQ
  · simp only [if_neg hc] at hQ
    refine ⟨fun hc => ?_, fun hc => ?_⟩
    · simp only [if_pos hc] at hQ
      exact sp_R_reckons_j15 _ _ _ _ _ hQ
    · simp only [if_neg hc] at hQ
      refine ⟨fun hc => ?_, fun hc => ?_⟩
      · simp only [if_neg hc] at hQ
        exact sp_R_reckons_j14 _ _ _ _ _ hQ
      · simp only [if_pos hc] at hQ
        exact sp_R_reckons_j15 _ _ _ _ _ hQ
def f_R_turned_j4_v (M0 : Mem) (x90 : Int32) (x96 : Int32) (x99 : Int32) : Int32 := x90
def f_R_turned_j4_m (M0 : Mem) (x90 : Int32) (x96 : Int32) (x99 : Int32) : Mem := let M100 : Mem := f_R_flagged_m M0 x96 (0 : Int32) (0 : Int32) x99; M100
set_option maxRecDepth 100000 in
set_option maxHeartbeats 4000000 in
theorem sp_R_turned_j4 (M0 : Mem) (x90 : Int32) (x96 : Int32) (x99 : Int32) (Q : Int32 → Mem → Prop) (hQ : Q (f_R_turned_j4_v M0 x90 x96 x99) (f_R_turned_j4_m M0 x90 x96 x99)) : wp_R_turned_j4 M0 x90 x96 x99 Q := by
  unfold wp_R_turned_j4
  unfold f_R_turned_j4_v f_R_turned_j4_m at hQ
  refine sp_R_flagged _ _ _ _ _ _ ?_
  exact hQ
def f_R_turned_j3_v (M0 : Mem) (x89 : Int32) (x90 : Int32) (x96 : Int32) : Int32 := (if x89 = (1 : Int32) then (f_R_turned_j4_v M0 x90 x96 (1 : Int32)) else (f_R_turned_j4_v M0 x90 x96 (0 : Int32)))
def f_R_turned_j3_m (M0 : Mem) (x89 : Int32) (x90 : Int32) (x96 : Int32) : Mem := (if x89 = (1 : Int32) then (f_R_turned_j4_m M0 x90 x96 (1 : Int32)) else (f_R_turned_j4_m M0 x90 x96 (0 : Int32)))
set_option maxRecDepth 100000 in
set_option maxHeartbeats 4000000 in
theorem sp_R_turned_j3 (M0 : Mem) (x89 : Int32) (x90 : Int32) (x96 : Int32) (Q : Int32 → Mem → Prop) (hQ : Q (f_R_turned_j3_v M0 x89 x90 x96) (f_R_turned_j3_m M0 x89 x90 x96)) : wp_R_turned_j3 M0 x89 x90 x96 Q := by
  unfold wp_R_turned_j3
  unfold f_R_turned_j3_v f_R_turned_j3_m at hQ
  refine ⟨fun hc => ?_, fun hc => ?_⟩
  · simp only [if_neg hc] at hQ
    exact sp_R_turned_j4 _ _ _ _ _ hQ
  · simp only [if_pos hc] at hQ
    exact sp_R_turned_j4 _ _ _ _ _ hQ
def f_R_turned_j2_v (M0 : Mem) (x88 : Int32) (x89 : Int32) : Int32 := let x90 : Int32 := (x88 &&& (255 : Int32)); (if x90 = 0 then (f_R_turned_j3_v M0 x89 x90 (1 : Int32)) else (f_R_turned_j3_v M0 x89 x90 (0 : Int32)))
def f_R_turned_j2_m (M0 : Mem) (x88 : Int32) (x89 : Int32) : Mem := let x90 : Int32 := (x88 &&& (255 : Int32)); (if x90 = 0 then (f_R_turned_j3_m M0 x89 x90 (1 : Int32)) else (f_R_turned_j3_m M0 x89 x90 (0 : Int32)))
set_option maxRecDepth 100000 in
set_option maxHeartbeats 4000000 in
theorem sp_R_turned_j2 (M0 : Mem) (x88 : Int32) (x89 : Int32) (Q : Int32 → Mem → Prop) (hQ : Q (f_R_turned_j2_v M0 x88 x89) (f_R_turned_j2_m M0 x88 x89)) : wp_R_turned_j2 M0 x88 x89 Q := by
  unfold wp_R_turned_j2
  unfold f_R_turned_j2_v f_R_turned_j2_m at hQ
  intro x90 h_; subst h_
  refine ⟨fun hc => ?_, fun hc => ?_⟩
  · simp only [if_neg hc] at hQ
    exact sp_R_turned_j3 _ _ _ _ _ hQ
  · simp only [if_pos hc] at hQ
    exact sp_R_turned_j3 _ _ _ _ _ hQ
def f_R_turned_j1_v (M0 : Mem) (a1 : Int32) (a2 : Int32) (x59 : Int32) : Int32 := (if (a1 = (0 : Int32)) then let x101 : Int32 := ((a2 <<< ((1 : Int32) &&& (31 : Int32))) ||| (a2 >>> ((7 : Int32) &&& (31 : Int32)))); let x102 : Int32 := (a2 >>> ((7 : Int32) &&& (31 : Int32))); (f_R_turned_j2_v M0 x101 x102) else (if (a1 = (1 : Int32)) then let x103 : Int32 := ((a2 >>> ((1 : Int32) &&& (31 : Int32))) ||| (a2 <<< ((7 : Int32) &&& (31 : Int32)))); let x104 : Int32 := (a2 &&& (1 : Int32)); (f_R_turned_j2_v M0 x103 x104) else (if (a1 = (2 : Int32)) then let x105 : Int32 := ((a2 <<< ((1 : Int32) &&& (31 : Int32))) ||| x59); let x106 : Int32 := (a2 >>> ((7 : Int32) &&& (31 : Int32))); (f_R_turned_j2_v M0 x105 x106) else (if (a1 = (3 : Int32)) then let x107 : Int32 := ((a2 >>> ((1 : Int32) &&& (31 : Int32))) ||| (x59 <<< ((7 : Int32) &&& (31 : Int32)))); let x108 : Int32 := (a2 &&& (1 : Int32)); (f_R_turned_j2_v M0 x107 x108) else (if (a1 = (4 : Int32)) then let x109 : Int32 := (a2 <<< ((1 : Int32) &&& (31 : Int32))); let x110 : Int32 := (a2 >>> ((7 : Int32) &&& (31 : Int32))); (f_R_turned_j2_v M0 x109 x110) else (if (a1 = (5 : Int32)) then let x111 : Int32 := ((a2 >>> ((1 : Int32) &&& (31 : Int32))) ||| (a2 &&& (128 : Int32))); let x112 : Int32 := (a2 &&& (1 : Int32)); (f_R_turned_j2_v M0 x111 x112) else (if (a1 = (6 : Int32)) then let x113 : Int32 := ((a2 <<< ((4 : Int32) &&& (31 : Int32))) ||| (a2 >>> ((4 : Int32) &&& (31 : Int32)))); (f_R_turned_j2_v M0 x113 (0 : Int32)) else let x114 : Int32 := (a2 >>> ((1 : Int32) &&& (31 : Int32))); let x115 : Int32 := (a2 &&& (1 : Int32)); (f_R_turned_j2_v M0 x114 x115))))))))
def f_R_turned_j1_m (M0 : Mem) (a1 : Int32) (a2 : Int32) (x59 : Int32) : Mem := (if (a1 = (0 : Int32)) then let x101 : Int32 := ((a2 <<< ((1 : Int32) &&& (31 : Int32))) ||| (a2 >>> ((7 : Int32) &&& (31 : Int32)))); let x102 : Int32 := (a2 >>> ((7 : Int32) &&& (31 : Int32))); (f_R_turned_j2_m M0 x101 x102) else (if (a1 = (1 : Int32)) then let x103 : Int32 := ((a2 >>> ((1 : Int32) &&& (31 : Int32))) ||| (a2 <<< ((7 : Int32) &&& (31 : Int32)))); let x104 : Int32 := (a2 &&& (1 : Int32)); (f_R_turned_j2_m M0 x103 x104) else (if (a1 = (2 : Int32)) then let x105 : Int32 := ((a2 <<< ((1 : Int32) &&& (31 : Int32))) ||| x59); let x106 : Int32 := (a2 >>> ((7 : Int32) &&& (31 : Int32))); (f_R_turned_j2_m M0 x105 x106) else (if (a1 = (3 : Int32)) then let x107 : Int32 := ((a2 >>> ((1 : Int32) &&& (31 : Int32))) ||| (x59 <<< ((7 : Int32) &&& (31 : Int32)))); let x108 : Int32 := (a2 &&& (1 : Int32)); (f_R_turned_j2_m M0 x107 x108) else (if (a1 = (4 : Int32)) then let x109 : Int32 := (a2 <<< ((1 : Int32) &&& (31 : Int32))); let x110 : Int32 := (a2 >>> ((7 : Int32) &&& (31 : Int32))); (f_R_turned_j2_m M0 x109 x110) else (if (a1 = (5 : Int32)) then let x111 : Int32 := ((a2 >>> ((1 : Int32) &&& (31 : Int32))) ||| (a2 &&& (128 : Int32))); let x112 : Int32 := (a2 &&& (1 : Int32)); (f_R_turned_j2_m M0 x111 x112) else (if (a1 = (6 : Int32)) then let x113 : Int32 := ((a2 <<< ((4 : Int32) &&& (31 : Int32))) ||| (a2 >>> ((4 : Int32) &&& (31 : Int32)))); (f_R_turned_j2_m M0 x113 (0 : Int32)) else let x114 : Int32 := (a2 >>> ((1 : Int32) &&& (31 : Int32))); let x115 : Int32 := (a2 &&& (1 : Int32)); (f_R_turned_j2_m M0 x114 x115))))))))
set_option maxRecDepth 100000 in
set_option maxHeartbeats 4000000 in
theorem sp_R_turned_j1 (M0 : Mem) (a1 : Int32) (a2 : Int32) (x59 : Int32) (Q : Int32 → Mem → Prop) (hQ : Q (f_R_turned_j1_v M0 a1 a2 x59) (f_R_turned_j1_m M0 a1 a2 x59)) : wp_R_turned_j1 M0 a1 a2 x59 Q := by
  unfold wp_R_turned_j1
  unfold f_R_turned_j1_v f_R_turned_j1_m at hQ
  refine ⟨fun hc => ?_, fun hc => ?_⟩
  · simp only [if_pos hc] at hQ
    intro x101 h_; subst h_
    intro x102 h_; subst h_
    exact sp_R_turned_j2 _ _ _ _ hQ
  · simp only [if_neg hc] at hQ
    refine ⟨fun hc => ?_, fun hc => ?_⟩
    · simp only [if_pos hc] at hQ
      intro x103 h_; subst h_
      intro x104 h_; subst h_
      exact sp_R_turned_j2 _ _ _ _ hQ
    · simp only [if_neg hc] at hQ
      refine ⟨fun hc => ?_, fun hc => ?_⟩
      · simp only [if_pos hc] at hQ
        intro x105 h_; subst h_
        intro x106 h_; subst h_
        exact sp_R_turned_j2 _ _ _ _ hQ
      · simp only [if_neg hc] at hQ
        refine ⟨fun hc => ?_, fun hc => ?_⟩
        · simp only [if_pos hc] at hQ
          intro x107 h_; subst h_
          intro x108 h_; subst h_
          exact sp_R_turned_j2 _ _ _ _ hQ
        · simp only [if_neg hc] at hQ
          refine ⟨fun hc => ?_, fun hc => ?_⟩
          · simp only [if_pos hc] at hQ
            intro x109 h_; subst h_
            intro x110 h_; subst h_
            exact sp_R_turned_j2 _ _ _ _ hQ
          · simp only [if_neg hc] at hQ
            refine ⟨fun hc => ?_, fun hc => ?_⟩
            · simp only [if_pos hc] at hQ
              intro x111 h_; subst h_
              intro x112 h_; subst h_
              exact sp_R_turned_j2 _ _ _ _ hQ
            · simp only [if_neg hc] at hQ
              refine ⟨fun hc => ?_, fun hc => ?_⟩
              · simp only [if_pos hc] at hQ
                intro x113 h_; subst h_
                exact sp_R_turned_j2 _ _ _ _ hQ
              · simp only [if_neg hc] at hQ
                intro x114 h_; subst h_
                intro x115 h_; subst h_
                exact sp_R_turned_j2 _ _ _ _ hQ
def f_R_turned_v (M0 : Mem) (a1 : Int32) (a2 : Int32) : Int32 := let x1 : Int32 := f_R_is_v M0 (16 : Int32); (if x1 = 0 then (f_R_turned_j1_v M0 a1 a2 (0 : Int32)) else (f_R_turned_j1_v M0 a1 a2 (1 : Int32)))
def f_R_turned_m (M0 : Mem) (a1 : Int32) (a2 : Int32) : Mem := let x1 : Int32 := f_R_is_v M0 (16 : Int32); (if x1 = 0 then (f_R_turned_j1_m M0 a1 a2 (0 : Int32)) else (f_R_turned_j1_m M0 a1 a2 (1 : Int32)))
def ok_R_turned (M0 : Mem) (a1 : Int32) (a2 : Int32) : Prop := ok_R_is M0 (16 : Int32)
set_option maxRecDepth 100000 in
set_option maxHeartbeats 4000000 in
theorem sp_R_turned (M0 : Mem) (a1 : Int32) (a2 : Int32) (Q : Int32 → Mem → Prop) (hok : ok_R_turned M0 a1 a2) (hQ : Q (f_R_turned_v M0 a1 a2) (f_R_turned_m M0 a1 a2)) : wp_R_turned M0 a1 a2 Q := by
  unfold wp_R_turned
  unfold ok_R_turned at hok
  unfold f_R_turned_v f_R_turned_m at hQ
  refine sp_R_is _ _ _ hok ?_
  refine ⟨fun hc => ?_, fun hc => ?_⟩
  · simp only [if_pos hc] at hQ
    exact sp_R_turned_j1 _ _ _ _ _ hQ
  · simp only [if_neg hc] at hQ
    exact sp_R_turned_j1 _ _ _ _ _ hQ
def f_R_adjusts_j2_m (x35 : Int32) (M36 : Mem) (x40 : Int32) : Mem := let x41 : Int32 := f_R_is_v M36 (64 : Int32); let M42 : Mem := f_R_flagged_m M36 x40 x41 (0 : Int32) x35; M42
def ok_R_adjusts_j2 (x35 : Int32) (M36 : Mem) (x40 : Int32) : Prop := ok_R_is M36 (64 : Int32)
set_option maxRecDepth 100000 in
set_option maxHeartbeats 4000000 in
theorem sp_R_adjusts_j2 (x35 : Int32) (M36 : Mem) (x40 : Int32) (Q : Mem → Prop) (hok : ok_R_adjusts_j2 x35 M36 x40) (hQ : Q (f_R_adjusts_j2_m x35 M36 x40)) : wp_R_adjusts_j2 x35 M36 x40 Q := by
  unfold wp_R_adjusts_j2
  unfold ok_R_adjusts_j2 at hok
  unfold f_R_adjusts_j2_m at hQ
  refine sp_R_is _ _ _ hok ?_
  refine sp_R_flagged _ _ _ _ _ _ ?_
  exact hQ
def f_R_adjusts_j1_m (M0 : Mem) (x34 : Int32) (x35 : Int32) : Mem := let M36 : Mem := mst M0 8 7 (x34 &&& (255 : Int32)); (if (M36 8 7) = 0 then (f_R_adjusts_j2_m x35 M36 (1 : Int32)) else (f_R_adjusts_j2_m x35 M36 (0 : Int32)))
def ok_R_adjusts_j1 (M0 : Mem) (x34 : Int32) (x35 : Int32) : Prop := ∀ M36 : Mem, M36 = mst M0 8 7 (x34 &&& (255 : Int32)) → (((¬ (M36 8 7) = 0) → ok_R_adjusts_j2 x35 M36 (0 : Int32)) ∧ (((M36 8 7) = 0) → ok_R_adjusts_j2 x35 M36 (1 : Int32)))
set_option maxRecDepth 100000 in
set_option maxHeartbeats 4000000 in
theorem sp_R_adjusts_j1 (M0 : Mem) (x34 : Int32) (x35 : Int32) (Q : Mem → Prop) (hok : ok_R_adjusts_j1 M0 x34 x35) (hQ : Q (f_R_adjusts_j1_m M0 x34 x35)) : wp_R_adjusts_j1 M0 x34 x35 Q := by
  unfold wp_R_adjusts_j1
  unfold ok_R_adjusts_j1 at hok
  unfold f_R_adjusts_j1_m at hQ
  intro M36 h_; subst h_
  have hok := hok _ rfl
  refine ⟨fun hc => ?_, fun hc => ?_⟩
  · simp only [if_neg hc] at hQ
    have hok := hok.1 hc
    exact sp_R_adjusts_j2 _ _ _ _ hok hQ
  · simp only [if_pos hc] at hQ
    have hok := hok.2 hc
    exact sp_R_adjusts_j2 _ _ _ _ hok hQ
def f_R_adjusts_j4_m (M0 : Mem) (x49 : Int32) (x50 : Int32) : Mem := let x53 : Int32 := x49 + (6 : Int32); (f_R_adjusts_j1_m M0 x53 x50)
def ok_R_adjusts_j4 (M0 : Mem) (x49 : Int32) (x50 : Int32) : Prop := ∀ x53 : Int32, x53 = x49 + (6 : Int32) → ok_R_adjusts_j1 M0 x53 x50
set_option maxRecDepth 100000 in
set_option maxHeartbeats 4000000 in
theorem sp_R_adjusts_j4 (M0 : Mem) (x49 : Int32) (x50 : Int32) (Q : Mem → Prop) (hok : ok_R_adjusts_j4 M0 x49 x50) (hQ : Q (f_R_adjusts_j4_m M0 x49 x50)) : wp_R_adjusts_j4 M0 x49 x50 Q := by
  unfold wp_R_adjusts_j4
  unfold ok_R_adjusts_j4 at hok
  unfold f_R_adjusts_j4_m at hQ
  intro x53 h_; subst h_
  have hok := hok _ rfl
  exact sp_R_adjusts_j1 _ _ _ _ hok hQ
def f_R_adjusts_j3_m (M0 : Mem) (x2 : Int32) (x49 : Int32) (x50 : Int32) : Mem := let x51 : Int32 := f_R_is_v M0 (32 : Int32); (if x51 = 0 then (if x2 ≤ (9 : Int32) then (f_R_adjusts_j1_m M0 x49 x50) else (f_R_adjusts_j4_m M0 x49 x50)) else (f_R_adjusts_j4_m M0 x49 x50))
def ok_R_adjusts_j3 (M0 : Mem) (x2 : Int32) (x49 : Int32) (x50 : Int32) : Prop := ok_R_is M0 (32 : Int32) ∧ (∀ x51 : Int32, x51 = f_R_is_v M0 (32 : Int32) → (((¬ x51 = 0) → ok_R_adjusts_j4 M0 x49 x50) ∧ ((x51 = 0) → (((x2 ≤ (9 : Int32)) → ok_R_adjusts_j1 M0 x49 x50) ∧ ((¬ x2 ≤ (9 : Int32)) → ok_R_adjusts_j4 M0 x49 x50)))))
set_option maxRecDepth 100000 in
set_option maxHeartbeats 4000000 in
theorem sp_R_adjusts_j3 (M0 : Mem) (x2 : Int32) (x49 : Int32) (x50 : Int32) (Q : Mem → Prop) (hok : ok_R_adjusts_j3 M0 x2 x49 x50) (hQ : Q (f_R_adjusts_j3_m M0 x2 x49 x50)) : wp_R_adjusts_j3 M0 x2 x49 x50 Q := by
  unfold wp_R_adjusts_j3
  unfold ok_R_adjusts_j3 at hok
  unfold f_R_adjusts_j3_m at hQ
  refine sp_R_is _ _ _ hok.1 ?_
  have hok := hok.2 _ rfl
  refine ⟨fun hc => ?_, fun hc => ?_⟩
  · simp only [if_neg hc] at hQ
    have hok := hok.1 hc
    exact sp_R_adjusts_j4 _ _ _ _ hok hQ
  · simp only [if_pos hc] at hQ
    have hok := hok.2 hc
    refine ⟨fun hc => ?_, fun hc => ?_⟩
    · simp only [if_pos hc] at hQ
      have hok := hok.1 hc
      exact sp_R_adjusts_j1 _ _ _ _ hok hQ
    · simp only [if_neg hc] at hQ
      have hok := hok.2 hc
      exact sp_R_adjusts_j4 _ _ _ _ hok hQ
def f_R_adjusts_j5_m (M0 : Mem) (x1 : Int32) (x2 : Int32) : Mem := let x54 : Int32 := x1 + (96 : Int32); (f_R_adjusts_j3_m M0 x2 x54 (1 : Int32))
def ok_R_adjusts_j5 (M0 : Mem) (x1 : Int32) (x2 : Int32) : Prop := ∀ x54 : Int32, x54 = x1 + (96 : Int32) → ok_R_adjusts_j3 M0 x2 x54 (1 : Int32)
set_option maxRecDepth 100000 in
set_option maxHeartbeats 4000000 in
theorem sp_R_adjusts_j5 (M0 : Mem) (x1 : Int32) (x2 : Int32) (Q : Mem → Prop) (hok : ok_R_adjusts_j5 M0 x1 x2) (hQ : Q (f_R_adjusts_j5_m M0 x1 x2)) : wp_R_adjusts_j5 M0 x1 x2 Q := by
  unfold wp_R_adjusts_j5
  unfold ok_R_adjusts_j5 at hok
  unfold f_R_adjusts_j5_m at hQ
  intro x54 h_; subst h_
  have hok := hok _ rfl
  exact sp_R_adjusts_j3 _ _ _ _ _ hok hQ
def f_R_adjusts_j6_m (M0 : Mem) (x3 : Int32) (x59 : Int32) : Mem := let x60 : Int32 := f_R_is_v M0 (32 : Int32); (if x60 = 0 then (f_R_adjusts_j1_m M0 x59 x3) else let x61 : Int32 := x59 + (-6 : Int32); (f_R_adjusts_j1_m M0 x61 x3))
def ok_R_adjusts_j6 (M0 : Mem) (x3 : Int32) (x59 : Int32) : Prop := ok_R_is M0 (32 : Int32) ∧ (∀ x60 : Int32, x60 = f_R_is_v M0 (32 : Int32) → (((x60 = 0) → ok_R_adjusts_j1 M0 x59 x3) ∧ ((¬ x60 = 0) → ∀ x61 : Int32, x61 = x59 + (-6 : Int32) → ok_R_adjusts_j1 M0 x61 x3)))
set_option maxRecDepth 100000 in
set_option maxHeartbeats 4000000 in
theorem sp_R_adjusts_j6 (M0 : Mem) (x3 : Int32) (x59 : Int32) (Q : Mem → Prop) (hok : ok_R_adjusts_j6 M0 x3 x59) (hQ : Q (f_R_adjusts_j6_m M0 x3 x59)) : wp_R_adjusts_j6 M0 x3 x59 Q := by
  unfold wp_R_adjusts_j6
  unfold ok_R_adjusts_j6 at hok
  unfold f_R_adjusts_j6_m at hQ
  refine sp_R_is _ _ _ hok.1 ?_
  have hok := hok.2 _ rfl
  refine ⟨fun hc => ?_, fun hc => ?_⟩
  · simp only [if_pos hc] at hQ
    have hok := hok.1 hc
    exact sp_R_adjusts_j1 _ _ _ _ hok hQ
  · simp only [if_neg hc] at hQ
    have hok := hok.2 hc
    intro x61 h_; subst h_
    have hok := hok _ rfl
    exact sp_R_adjusts_j1 _ _ _ _ hok hQ
def f_R_adjusts_m (M0 : Mem) : Mem := let x1 : Int32 := (M0 8 7); let x2 : Int32 := (x1 &&& (15 : Int32)); let x3 : Int32 := f_R_is_v M0 (16 : Int32); let x4 : Int32 := f_R_is_v M0 (64 : Int32); (if x4 = 0 then (if x3 = 0 then (if x1 ≤ (153 : Int32) then (f_R_adjusts_j3_m M0 x2 x1 x3) else (f_R_adjusts_j5_m M0 x1 x2)) else (f_R_adjusts_j5_m M0 x1 x2)) else (if x3 = 0 then (f_R_adjusts_j6_m M0 x3 x1) else let x62 : Int32 := x1 + (-96 : Int32); (f_R_adjusts_j6_m M0 x3 x62)))
def ok_R_adjusts (M0 : Mem) : Prop := ∀ x1 : Int32, x1 = (M0 8 7) → ∀ x2 : Int32, x2 = (x1 &&& (15 : Int32)) → ok_R_is M0 (16 : Int32) ∧ (∀ x3 : Int32, x3 = f_R_is_v M0 (16 : Int32) → ok_R_is M0 (64 : Int32) ∧ (∀ x4 : Int32, x4 = f_R_is_v M0 (64 : Int32) → (((x4 = 0) → (((¬ x3 = 0) → ok_R_adjusts_j5 M0 x1 x2) ∧ ((x3 = 0) → (((x1 ≤ (153 : Int32)) → ok_R_adjusts_j3 M0 x2 x1 x3) ∧ ((¬ x1 ≤ (153 : Int32)) → ok_R_adjusts_j5 M0 x1 x2))))) ∧ ((¬ x4 = 0) → (((x3 = 0) → ok_R_adjusts_j6 M0 x3 x1) ∧ ((¬ x3 = 0) → ∀ x62 : Int32, x62 = x1 + (-96 : Int32) → ok_R_adjusts_j6 M0 x3 x62))))))
set_option maxRecDepth 100000 in
set_option maxHeartbeats 4000000 in
theorem sp_R_adjusts (M0 : Mem) (Q : Mem → Prop) (hok : ok_R_adjusts M0) (hQ : Q (f_R_adjusts_m M0)) : wp_R_adjusts M0 Q := by
  unfold wp_R_adjusts
  unfold ok_R_adjusts at hok
  unfold f_R_adjusts_m at hQ
  intro x1 h_; subst h_
  have hok := hok _ rfl
  intro x2 h_; subst h_
  have hok := hok _ rfl
  refine sp_R_is _ _ _ hok.1 ?_
  have hok := hok.2 _ rfl
  refine sp_R_is _ _ _ hok.1 ?_
  have hok := hok.2 _ rfl
  refine ⟨fun hc => ?_, fun hc => ?_⟩
  · simp only [if_pos hc] at hQ
    have hok := hok.1 hc
    refine ⟨fun hc => ?_, fun hc => ?_⟩
    · simp only [if_neg hc] at hQ
      have hok := hok.1 hc
      exact sp_R_adjusts_j5 _ _ _ _ hok hQ
    · simp only [if_pos hc] at hQ
      have hok := hok.2 hc
      refine ⟨fun hc => ?_, fun hc => ?_⟩
      · simp only [if_pos hc] at hQ
        have hok := hok.1 hc
        exact sp_R_adjusts_j3 _ _ _ _ _ hok hQ
      · simp only [if_neg hc] at hQ
        have hok := hok.2 hc
        exact sp_R_adjusts_j5 _ _ _ _ hok hQ
  · simp only [if_neg hc] at hQ
    have hok := hok.2 hc
    refine ⟨fun hc => ?_, fun hc => ?_⟩
    · simp only [if_pos hc] at hQ
      have hok := hok.1 hc
      exact sp_R_adjusts_j6 _ _ _ _ hok hQ
    · simp only [if_neg hc] at hQ
      have hok := hok.2 hc
      intro x62 h_; subst h_
      have hok := hok _ rfl
      exact sp_R_adjusts_j6 _ _ _ _ hok hQ
