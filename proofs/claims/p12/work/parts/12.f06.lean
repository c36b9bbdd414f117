def f_R_pixel_j2_v (M10 : Mem) (x12 : Int32) : Int32 := x12
def f_R_pixel_j2_m (M10 : Mem) (x12 : Int32) : Mem := M10
set_option maxRecDepth 100000 in
set_option maxHeartbeats 4000000 in
theorem sp_R_pixel_j2 (M10 : Mem) (x12 : Int32) (Q : Int32 → Mem → Prop) (hQ : Q (f_R_pixel_j2_v M10 x12) (f_R_pixel_j2_m M10 x12)) : wp_R_pixel_j2 M10 x12 Q := by
  unfold wp_R_pixel_j2
  unfold f_R_pixel_j2_v f_R_pixel_j2_m at hQ
  exact hQ
def f_R_pixel_j1_v (a1 : Int32) (M1 : Mem) (x8 : Int32) : Int32 := let x9 : Int32 := f_R_fails_v M1 x8 (1 : Int32); let M10 : Mem := f_R_fails_m M1 x8 (1 : Int32); (if x9 = 0 then (f_R_pixel_j2_v M10 (M10 7 a1.toNatClampNeg)) else (f_R_pixel_j2_v M10 (0 : Int32)))
def f_R_pixel_j1_m (a1 : Int32) (M1 : Mem) (x8 : Int32) : Mem := let x9 : Int32 := f_R_fails_v M1 x8 (1 : Int32); let M10 : Mem := f_R_fails_m M1 x8 (1 : Int32); (if x9 = 0 then (f_R_pixel_j2_m M10 (M10 7 a1.toNatClampNeg)) else (f_R_pixel_j2_m M10 (0 : Int32)))
def ok_R_pixel_j1 (a1 : Int32) (M1 : Mem) (x8 : Int32) : Prop := ok_R_fails M1 x8 (1 : Int32) ∧ (∀ x9 : Int32, x9 = f_R_fails_v M1 x8 (1 : Int32) → ∀ M10 : Mem, M10 = f_R_fails_m M1 x8 (1 : Int32) → (((x9 = 0) → vp_in a1 160) ∧ ((¬ x9 = 0) → True)))
set_option maxRecDepth 100000 in
set_option maxHeartbeats 4000000 in
theorem sp_R_pixel_j1 (a1 : Int32) (M1 : Mem) (x8 : Int32) (Q : Int32 → Mem → Prop) (hok : ok_R_pixel_j1 a1 M1 x8) (hQ : Q (f_R_pixel_j1_v a1 M1 x8) (f_R_pixel_j1_m a1 M1 x8)) : wp_R_pixel_j1 a1 M1 x8 Q := by
  unfold wp_R_pixel_j1
  unfold ok_R_pixel_j1 at hok
  unfold f_R_pixel_j1_v f_R_pixel_j1_m at hQ
  refine sp_R_fails _ _ _ _ hok.1 ?_
  have hok := hok.2 _ rfl _ rfl
  refine ⟨fun hc => ?_, fun hc => ?_⟩
  · simp only [if_pos hc] at hQ
    have hok := hok.1 hc
    refine ⟨hok, ?_⟩
    exact sp_R_pixel_j2 _ _ _ hQ
  · simp only [if_neg hc] at hQ
    exact sp_R_pixel_j2 _ _ _ hQ
def f_R_pixel_v (M0 : Mem) (a1 : Int32) : Int32 := let M1 : Mem := mst M0 0 0 (0 : Int32); let x2 : Int32 := f_R_in_v M1 a1 (0 : Int32) (159 : Int32); (if x2 = 0 then (f_R_pixel_j1_v a1 M1 (1 : Int32)) else (f_R_pixel_j1_v a1 M1 (0 : Int32)))
def f_R_pixel_m (M0 : Mem) (a1 : Int32) : Mem := let M1 : Mem := mst M0 0 0 (0 : Int32); let x2 : Int32 := f_R_in_v M1 a1 (0 : Int32) (159 : Int32); (if x2 = 0 then (f_R_pixel_j1_m a1 M1 (1 : Int32)) else (f_R_pixel_j1_m a1 M1 (0 : Int32)))
def ok_R_pixel (M0 : Mem) (a1 : Int32) : Prop := ∀ M1 : Mem, M1 = mst M0 0 0 (0 : Int32) → ok_R_in M1 a1 (0 : Int32) (159 : Int32) ∧ (∀ x2 : Int32, x2 = f_R_in_v M1 a1 (0 : Int32) (159 : Int32) → (((¬ x2 = 0) → ok_R_pixel_j1 a1 M1 (0 : Int32)) ∧ ((x2 = 0) → ok_R_pixel_j1 a1 M1 (1 : Int32))))
set_option maxRecDepth 100000 in
set_option maxHeartbeats 4000000 in
theorem sp_R_pixel (M0 : Mem) (a1 : Int32) (Q : Int32 → Mem → Prop) (hok : ok_R_pixel M0 a1) (hQ : Q (f_R_pixel_v M0 a1) (f_R_pixel_m M0 a1)) : wp_R_pixel M0 a1 Q := by
  unfold wp_R_pixel
  unfold ok_R_pixel at hok
  unfold f_R_pixel_v f_R_pixel_m at hQ
  intro M1 h_; subst h_
  have hok := hok _ rfl
  refine sp_R_in _ _ _ _ _ hok.1 ?_
  have hok := hok.2 _ rfl
  refine ⟨fun hc => ?_, fun hc => ?_⟩
  · simp only [if_neg hc] at hQ
    have hok := hok.1 hc
    exact sp_R_pixel_j1 _ _ _ _ hok hQ
  · simp only [if_pos hc] at hQ
    have hok := hok.2 hc
    exact sp_R_pixel_j1 _ _ _ _ hok hQ
def f_R_count_j2_v (M25 : Mem) (x27 : Int32) : Int32 := x27
def f_R_count_j2_m (M25 : Mem) (x27 : Int32) : Mem := M25
set_option maxRecDepth 100000 in
set_option maxHeartbeats 4000000 in
theorem sp_R_count_j2 (M25 : Mem) (x27 : Int32) (Q : Int32 → Mem → Prop) (hQ : Q (f_R_count_j2_v M25 x27) (f_R_count_j2_m M25 x27)) : wp_R_count_j2 M25 x27 Q := by
  unfold wp_R_count_j2
  unfold f_R_count_j2_v f_R_count_j2_m at hQ
  exact hQ
def f_R_count_j3_v (M25 : Mem) (x29 : Int32) : Int32 := x29
def f_R_count_j3_m (M25 : Mem) (x29 : Int32) : Mem := M25
set_option maxRecDepth 100000 in
set_option maxHeartbeats 4000000 in
theorem sp_R_count_j3 (M25 : Mem) (x29 : Int32) (Q : Int32 → Mem → Prop) (hQ : Q (f_R_count_j3_v M25 x29) (f_R_count_j3_m M25 x29)) : wp_R_count_j3 M25 x29 Q := by
  unfold wp_R_count_j3
  unfold f_R_count_j3_v f_R_count_j3_m at hQ
  exact hQ
def f_R_count_j4_v (M25 : Mem) (x31 : Int32) : Int32 := x31
def f_R_count_j4_m (M25 : Mem) (x31 : Int32) : Mem := M25
set_option maxRecDepth 100000 in
set_option maxHeartbeats 4000000 in
theorem sp_R_count_j4 (M25 : Mem) (x31 : Int32) (Q : Int32 → Mem → Prop) (hQ : Q (f_R_count_j4_v M25 x31) (f_R_count_j4_m M25 x31)) : wp_R_count_j4 M25 x31 Q := by
  unfold wp_R_count_j4
  unfold f_R_count_j4_v f_R_count_j4_m at hQ
  exact hQ
def f_R_count_j5_v (M25 : Mem) (x34 : Int32) : Int32 := x34
def f_R_count_j5_m (M25 : Mem) (x34 : Int32) : Mem := M25
set_option maxRecDepth 100000 in
set_option maxHeartbeats 4000000 in
theorem sp_R_count_j5 (M25 : Mem) (x34 : Int32) (Q : Int32 → Mem → Prop) (hQ : Q (f_R_count_j5_v M25 x34) (f_R_count_j5_m M25 x34)) : wp_R_count_j5 M25 x34 Q := by
  unfold wp_R_count_j5
  unfold f_R_count_j5_v f_R_count_j5_m at hQ
  exact hQ
def f_R_count_j6_v (M25 : Mem) (x38 : Int32) : Int32 := x38
def f_R_count_j6_m (M25 : Mem) (x38 : Int32) : Mem := M25
set_option maxRecDepth 100000 in
set_option maxHeartbeats 4000000 in
theorem sp_R_count_j6 (M25 : Mem) (x38 : Int32) (Q : Int32 → Mem → Prop) (hQ : Q (f_R_count_j6_v M25 x38) (f_R_count_j6_m M25 x38)) : wp_R_count_j6 M25 x38 Q := by
  unfold wp_R_count_j6
  unfold f_R_count_j6_v f_R_count_j6_m at hQ
  exact hQ
def f_R_count_j7_v (M25 : Mem) (x42 : Int32) : Int32 := x42
def f_R_count_j7_m (M25 : Mem) (x42 : Int32) : Mem := M25
set_option maxRecDepth 100000 in
set_option maxHeartbeats 4000000 in
theorem sp_R_count_j7 (M25 : Mem) (x42 : Int32) (Q : Int32 → Mem → Prop) (hQ : Q (f_R_count_j7_v M25 x42) (f_R_count_j7_m M25 x42)) : wp_R_count_j7 M25 x42 Q := by
  unfold wp_R_count_j7
  unfold f_R_count_j7_v f_R_count_j7_m at hQ
  exact hQ
def f_R_count_j1_v (a1 : Int32) (M1 : Mem) (x23 : Int32) : Int32 := let x24 : Int32 := f_R_fails_v M1 x23 (1 : Int32); let M25 : Mem := f_R_fails_m M1 x23 (1 : Int32); (if x24 = 0 then (if (a1 = (0 : Int32)) then (M25 0 47) else (if (a1 = (1 : Int32)) then (M25 0 48) else (if (a1 = (2 : Int32)) then (if (M25 0 21) = 0 then (f_R_count_j2_v M25 (0 : Int32)) else (f_R_count_j2_v M25 (1 : Int32))) else (if (a1 = (3 : Int32)) then (if (M25 0 22) = 0 then (f_R_count_j3_v M25 (0 : Int32)) else (f_R_count_j3_v M25 (1 : Int32))) else (if (a1 = (4 : Int32)) then (if (M25 0 23) = 0 then (f_R_count_j4_v M25 (0 : Int32)) else (f_R_count_j4_v M25 (1 : Int32))) else (if (a1 = (5 : Int32)) then (if (M25 0 8) = 0 then (f_R_count_j5_v M25 (0 : Int32)) else let x35 : Int32 := f_R_bankHigh_v M25; (f_R_count_j5_v M25 x35)) else (if (a1 = (6 : Int32)) then (if (M25 0 8) = 0 then (f_R_count_j6_v M25 (0 : Int32)) else let x39 : Int32 := f_R_bankRam_v M25; (f_R_count_j6_v M25 x39)) else (if (a1 = (7 : Int32)) then let x40 : Int32 := f_R_hasRam_v M25; (if x40 = 0 then (f_R_count_j7_v M25 (0 : Int32)) else (f_R_count_j7_v M25 (1 : Int32))) else (M25 0 49))))))))) else (0 : Int32))
def f_R_count_j1_m (a1 : Int32) (M1 : Mem) (x23 : Int32) : Mem := let x24 : Int32 := f_R_fails_v M1 x23 (1 : Int32); let M25 : Mem := f_R_fails_m M1 x23 (1 : Int32); (if x24 = 0 then (if (a1 = (0 : Int32)) then M25 else (if (a1 = (1 : Int32)) then M25 else (if (a1 = (2 : Int32)) then (if (M25 0 21) = 0 then (f_R_count_j2_m M25 (0 : Int32)) else (f_R_count_j2_m M25 (1 : Int32))) else (if (a1 = (3 : Int32)) then (if (M25 0 22) = 0 then (f_R_count_j3_m M25 (0 : Int32)) else (f_R_count_j3_m M25 (1 : Int32))) else (if (a1 = (4 : Int32)) then (if (M25 0 23) = 0 then (f_R_count_j4_m M25 (0 : Int32)) else (f_R_count_j4_m M25 (1 : Int32))) else (if (a1 = (5 : Int32)) then (if (M25 0 8) = 0 then (f_R_count_j5_m M25 (0 : Int32)) else let x35 : Int32 := f_R_bankHigh_v M25; (f_R_count_j5_m M25 x35)) else (if (a1 = (6 : Int32)) then (if (M25 0 8) = 0 then (f_R_count_j6_m M25 (0 : Int32)) else let x39 : Int32 := f_R_bankRam_v M25; (f_R_count_j6_m M25 x39)) else (if (a1 = (7 : Int32)) then let x40 : Int32 := f_R_hasRam_v M25; (if x40 = 0 then (f_R_count_j7_m M25 (0 : Int32)) else (f_R_count_j7_m M25 (1 : Int32))) else M25)))))))) else M25)
def ok_R_count_j1 (a1 : Int32) (M1 : Mem) (x23 : Int32) : Prop := ok_R_fails M1 x23 (1 : Int32) ∧ (∀ x24 : Int32, x24 = f_R_fails_v M1 x23 (1 : Int32) → ∀ M25 : Mem, M25 = f_R_fails_m M1 x23 (1 : Int32) → (((x24 = 0) → ((((a1 = (0 : Int32))) → True) ∧ ((¬ (a1 = (0 : Int32))) → ((((a1 = (1 : Int32))) → True) ∧ ((¬ (a1 = (1 : Int32))) → ((((a1 = (2 : Int32))) → True) ∧ ((¬ (a1 = (2 : Int32))) → ((((a1 = (3 : Int32))) → True) ∧ ((¬ (a1 = (3 : Int32))) → ((((a1 = (4 : Int32))) → True) ∧ ((¬ (a1 = (4 : Int32))) → ((((a1 = (5 : Int32))) → True) ∧ ((¬ (a1 = (5 : Int32))) → ((((a1 = (6 : Int32))) → True) ∧ ((¬ (a1 = (6 : Int32))) → ((((a1 = (7 : Int32))) → ok_R_hasRam M25) ∧ ((¬ (a1 = (7 : Int32))) → True))))))))))))))))) ∧ ((¬ x24 = 0) → True)))
set_option maxRecDepth 100000 in
set_option maxHeartbeats 4000000 in
theorem sp_R_count_j1 (a1 : Int32) (M1 : Mem) (x23 : Int32) (Q : Int32 → Mem → Prop) (hok : ok_R_count_j1 a1 M1 x23) (hQ : Q (f_R_count_j1_v a1 M1 x23) (f_R_count_j1_m a1 M1 x23)) : wp_R_count_j1 a1 M1 x23 Q := by
  unfold wp_R_count_j1
  unfold ok_R_count_j1 at hok
  unfold f_R_count_j1_v f_R_count_j1_m at hQ
  refine sp_R_fails _ _ _ _ hok.1 ?_
  have hok := hok.2 _ rfl _ rfl
  refine ⟨fun hc => ?_, fun hc => ?_⟩
  · simp only [if_pos hc] at hQ
    have hok := hok.1 hc
    refine ⟨fun hc => ?_, fun hc => ?_⟩
    · simp only [if_pos hc] at hQ
      exact hQ
    · simp only [if_neg hc] at hQ
      have hok := hok.2 hc
      refine ⟨fun hc => ?_, fun hc => ?_⟩
      · simp only [if_pos hc] at hQ
        exact hQ
      · simp only [if_neg hc] at hQ
        have hok := hok.2 hc
        refine ⟨fun hc => ?_, fun hc => ?_⟩
        · simp only [if_pos hc] at hQ
          refine ⟨fun hc => ?_, fun hc => ?_⟩
          · simp only [if_pos hc] at hQ
            exact sp_R_count_j2 _ _ _ hQ
          · simp only [if_neg hc] at hQ
            exact sp_R_count_j2 _ _ _ hQ
        · simp only [if_neg hc] at hQ
          have hok := hok.2 hc
          refine ⟨fun hc => ?_, fun hc => ?_⟩
          · simp only [if_pos hc] at hQ
            refine ⟨fun hc => ?_, fun hc => ?_⟩
            · simp only [if_pos hc] at hQ
              exact sp_R_count_j3 _ _ _ hQ
            · simp only [if_neg hc] at hQ
              exact sp_R_count_j3 _ _ _ hQ
          · simp only [if_neg hc] at hQ
            have hok := hok.2 hc
            refine ⟨fun hc => ?_, fun hc => ?_⟩
            · simp only [if_pos hc] at hQ
              refine ⟨fun hc => ?_, fun hc => ?_⟩
              · simp only [if_pos hc] at hQ
                exact sp_R_count_j4 _ _ _ hQ
              · simp only [if_neg hc] at hQ
                exact sp_R_count_j4 _ _ _ hQ
            · simp only [if_neg hc] at hQ
              have hok := hok.2 hc
              refine ⟨fun hc => ?_, fun hc => ?_⟩
              · simp only [if_pos hc] at hQ
                refine ⟨fun hc => ?_, fun hc => ?_⟩
                · simp only [if_pos hc] at hQ
                  exact sp_R_count_j5 _ _ _ hQ
                · simp only [if_neg hc] at hQ
                  refine sp_R_bankHigh _ _ ?_
                  exact sp_R_count_j5 _ _ _ hQ
              · simp only [if_neg hc] at hQ
                have hok := hok.2 hc
                refine ⟨fun hc => ?_, fun hc => ?_⟩
                · simp only [if_pos hc] at hQ
                  refine ⟨fun hc => ?_, fun hc => ?_⟩
                  · simp only [if_pos hc] at hQ
                    exact sp_R_count_j6 _ _ _ hQ
                  · simp only [if_neg hc] at hQ
                    refine sp_R_bankRam _ _ ?_
                    exact sp_R_count_j6 _ _ _ hQ
                · simp only [if_neg hc] at hQ
                  have hok := hok.2 hc
                  refine ⟨fun hc => ?_, fun hc => ?_⟩
                  · simp only [if_pos hc] at hQ
                    have hok := hok.1 hc
                    refine sp_R_hasRam _ _ hok ?_
                    refine ⟨fun hc => ?_, fun hc => ?_⟩
                    · simp only [if_pos hc] at hQ
                      exact sp_R_count_j7 _ _ _ hQ
                    · simp only [if_neg hc] at hQ
                      exact sp_R_count_j7 _ _ _ hQ
                  · simp only [if_neg hc] at hQ
                    exact hQ
  · simp only [if_neg hc] at hQ
    exact hQ
def f_R_count_v (M0 : Mem) (a1 : Int32) : Int32 := let M1 : Mem := mst M0 0 0 (0 : Int32); let x2 : Int32 := f_R_in_v M1 a1 (0 : Int32) (8 : Int32); (if x2 = 0 then (f_R_count_j1_v a1 M1 (1 : Int32)) else (f_R_count_j1_v a1 M1 (0 : Int32)))
def f_R_count_m (M0 : Mem) (a1 : Int32) : Mem := let M1 : Mem := mst M0 0 0 (0 : Int32); let x2 : Int32 := f_R_in_v M1 a1 (0 : Int32) (8 : Int32); (if x2 = 0 then (f_R_count_j1_m a1 M1 (1 : Int32)) else (f_R_count_j1_m a1 M1 (0 : Int32)))
def ok_R_count (M0 : Mem) (a1 : Int32) : Prop := ∀ M1 : Mem, M1 = mst M0 0 0 (0 : Int32) → ok_R_in M1 a1 (0 : Int32) (8 : Int32) ∧ (∀ x2 : Int32, x2 = f_R_in_v M1 a1 (0 : Int32) (8 : Int32) → (((¬ x2 = 0) → ok_R_count_j1 a1 M1 (0 : Int32)) ∧ ((x2 = 0) → ok_R_count_j1 a1 M1 (1 : Int32))))
set_option maxRecDepth 100000 in
set_option maxHeartbeats 4000000 in
theorem sp_R_count (M0 : Mem) (a1 : Int32) (Q : Int32 → Mem → Prop) (hok : ok_R_count M0 a1) (hQ : Q (f_R_count_v M0 a1) (f_R_count_m M0 a1)) : wp_R_count M0 a1 Q := by
  unfold wp_R_count
  unfold ok_R_count at hok
  unfold f_R_count_v f_R_count_m at hQ
  intro M1 h_; subst h_
  have hok := hok _ rfl
  refine sp_R_in _ _ _ _ _ hok.1 ?_
  have hok := hok.2 _ rfl
  refine ⟨fun hc => ?_, fun hc => ?_⟩
  · simp only [if_neg hc] at hQ
    have hok := hok.1 hc
    exact sp_R_count_j1 _ _ _ _ hok hQ
  · simp only [if_pos hc] at hQ
    have hok := hok.2 hc
    exact sp_R_count_j1 _ _ _ _ hok hQ
def f_R_speed_j1_v (M1 : Mem) (x5 : Int32) : UInt64 := let x6 : Int32 := f_R_fails_v M1 x5 (1 : Int32); let M7 : Mem := f_R_fails_m M1 x5 (1 : Int32); (if x6 = 0 then (FP.dmul (FP.ddiv (4697254411347427328 : UInt64) (FP.i2d (M7 0 47))) (FP.i2d (M7 0 50))) else FP.dconst0)
def f_R_speed_j1_m (M1 : Mem) (x5 : Int32) : Mem := let x6 : Int32 := f_R_fails_v M1 x5 (1 : Int32); let M7 : Mem := f_R_fails_m M1 x5 (1 : Int32); (if x6 = 0 then M7 else M7)
def ok_R_speed_j1 (M1 : Mem) (x5 : Int32) : Prop := ok_R_fails M1 x5 (1 : Int32) ∧ (∀ x6 : Int32, x6 = f_R_fails_v M1 x5 (1 : Int32) → ∀ M7 : Mem, M7 = f_R_fails_m M1 x5 (1 : Int32) → (((x6 = 0) → vf_n64 (FP.ddiv (4697254411347427328 : UInt64) (FP.i2d (M7 0 47))) ∧ (vf_n64 (FP.dmul (FP.ddiv (4697254411347427328 : UInt64) (FP.i2d (M7 0 47))) (FP.i2d (M7 0 50))))) ∧ ((¬ x6 = 0) → True)))
set_option maxRecDepth 100000 in
set_option maxHeartbeats 4000000 in
theorem sp_R_speed_j1 (M1 : Mem) (x5 : Int32) (Q : UInt64 → Mem → Prop) (hok : ok_R_speed_j1 M1 x5) (hQ : Q (f_R_speed_j1_v M1 x5) (f_R_speed_j1_m M1 x5)) : wp_R_speed_j1 M1 x5 Q := by
  unfold wp_R_speed_j1
  unfold ok_R_speed_j1 at hok
  unfold f_R_speed_j1_v f_R_speed_j1_m at hQ
  refine sp_R_fails _ _ _ _ hok.1 ?_
  have hok := hok.2 _ rfl _ rfl
  refine ⟨fun hc => ?_, fun hc => ?_⟩
  · simp only [if_pos hc] at hQ
    have hok := hok.1 hc
    refine ⟨hok.1, ?_⟩
    have hok := hok.2
    refine ⟨hok, ?_⟩
    exact hQ
  · simp only [if_neg hc] at hQ
    exact hQ
def f_R_speed_v (M0 : Mem) : UInt64 := let M1 : Mem := mst M0 0 0 (0 : Int32); (if (M1 0 47) = 0 then (f_R_speed_j1_v M1 (1 : Int32)) else (f_R_speed_j1_v M1 (0 : Int32)))
def f_R_speed_m (M0 : Mem) : Mem := let M1 : Mem := mst M0 0 0 (0 : Int32); (if (M1 0 47) = 0 then (f_R_speed_j1_m M1 (1 : Int32)) else (f_R_speed_j1_m M1 (0 : Int32)))
def ok_R_speed (M0 : Mem) : Prop := ∀ M1 : Mem, M1 = mst M0 0 0 (0 : Int32) → (((¬ (M1 0 47) = 0) → ok_R_speed_j1 M1 (0 : Int32)) ∧ (((M1 0 47) = 0) → ok_R_speed_j1 M1 (1 : Int32)))
set_option maxRecDepth 100000 in
set_option maxHeartbeats 4000000 in
theorem sp_R_speed (M0 : Mem) (Q : UInt64 → Mem → Prop) (hok : ok_R_speed M0) (hQ : Q (f_R_speed_v M0) (f_R_speed_m M0)) : wp_R_speed M0 Q := by
  unfold wp_R_speed
  unfold ok_R_speed at hok
  unfold f_R_speed_v f_R_speed_m at hQ
  intro M1 h_; subst h_
  have hok := hok _ rfl
  refine ⟨fun hc => ?_, fun hc => ?_⟩
  · simp only [if_neg hc] at hQ
    have hok := hok.1 hc
    exact sp_R_speed_j1 _ _ _ hok hQ
  · simp only [if_pos hc] at hQ
    have hok := hok.2 hc
    exact sp_R_speed_j1 _ _ _ hok hQ
def f_T_rom_j1_v : Int32 := 0
def f_T_rom_j1_m : Mem := (fun _ _ => 0)
def ok_T_rom_j1 : Prop := False
set_option maxRecDepth 100000 in
set_option maxHeartbeats 4000000 in
theorem sp_T_rom_j1 (Q : Int32 → Mem → Prop) (hok : ok_T_rom_j1 ) (hQ : Q (f_T_rom_j1_v ) (f_T_rom_j1_m )) : wp_T_rom_j1  Q := by
  unfold wp_T_rom_j1
  unfold ok_T_rom_j1 at hok
  unfold f_T_rom_j1_v f_T_rom_j1_m at hQ
  exact False.elim hok
def f_T_rom_j2_v : Int32 := 0
def f_T_rom_j2_m : Mem := (fun _ _ => 0)
def ok_T_rom_j2 : Prop := False
set_option maxRecDepth 100000 in
set_option maxHeartbeats 4000000 in
theorem sp_T_rom_j2 (Q : Int32 → Mem → Prop) (hok : ok_T_rom_j2 ) (hQ : Q (f_T_rom_j2_v ) (f_T_rom_j2_m )) : wp_T_rom_j2  Q := by
  unfold wp_T_rom_j2
  unfold ok_T_rom_j2 at hok
  unfold f_T_rom_j2_v f_T_rom_j2_m at hQ
  exact False.elim hok
def f_T_rom_j3_v : Int32 := 0
def f_T_rom_j3_m : Mem := (fun _ _ => 0)
def ok_T_rom_j3 : Prop := False
set_option maxRecDepth 100000 in
set_option maxHeartbeats 4000000 in
theorem sp_T_rom_j3 (Q : Int32 → Mem → Prop) (hok : ok_T_rom_j3 ) (hQ : Q (f_T_rom_j3_v ) (f_T_rom_j3_m )) : wp_T_rom_j3  Q := by
  unfold wp_T_rom_j3
  unfold ok_T_rom_j3 at hok
  unfold f_T_rom_j3_v f_T_rom_j3_m at hQ
  exact False.elim hok
def f_T_rom_l1_v (a1 : Int32) (a2 : Int32) (a3 : Int32) (a4 : Int64) (n : Nat) : Int32 → Mem → Int32 := Nat.rec (motive := fun _ => Int32 → Mem → Int32) (fun _ _ => 0) (fun _ K1_v x36 M37 => (if a3 ≤ x36 then a3 else let x38 : Int32 := f_T_octetOf_v M37 a4 x36; let M39 : Mem := mst M37 6 ((((a1 * (1024 : Int32)) + a2) + x36)).toNatClampNeg x38; let x40 : Int32 := x36 + (1 : Int32); (K1_v x40 M39))) n
theorem f_T_rom_l1_v_s (a1 : Int32) (a2 : Int32) (a3 : Int32) (a4 : Int64) (n : Nat) (x36 : Int32) (M37 : Mem) : f_T_rom_l1_v a1 a2 a3 a4 (n + 1) x36 M37 = (let K1_v : Int32 → Mem → Int32 := f_T_rom_l1_v a1 a2 a3 a4 n; (if a3 ≤ x36 then a3 else let x38 : Int32 := f_T_octetOf_v M37 a4 x36; let M39 : Mem := mst M37 6 ((((a1 * (1024 : Int32)) + a2) + x36)).toNatClampNeg x38; let x40 : Int32 := x36 + (1 : Int32); (K1_v x40 M39))) := rfl
def f_T_rom_l1_m (a1 : Int32) (a2 : Int32) (a3 : Int32) (a4 : Int64) (n : Nat) : Int32 → Mem → Mem := Nat.rec (motive := fun _ => Int32 → Mem → Mem) (fun _ _ => (fun _ _ => 0)) (fun _ K1_m x36 M37 => (if a3 ≤ x36 then M37 else let x38 : Int32 := f_T_octetOf_v M37 a4 x36; let M39 : Mem := mst M37 6 ((((a1 * (1024 : Int32)) + a2) + x36)).toNatClampNeg x38; let x40 : Int32 := x36 + (1 : Int32); (K1_m x40 M39))) n
theorem f_T_rom_l1_m_s (a1 : Int32) (a2 : Int32) (a3 : Int32) (a4 : Int64) (n : Nat) (x36 : Int32) (M37 : Mem) : f_T_rom_l1_m a1 a2 a3 a4 (n + 1) x36 M37 = (let K1_m : Int32 → Mem → Mem := f_T_rom_l1_m a1 a2 a3 a4 n; (if a3 ≤ x36 then M37 else let x38 : Int32 := f_T_octetOf_v M37 a4 x36; let M39 : Mem := mst M37 6 ((((a1 * (1024 : Int32)) + a2) + x36)).toNatClampNeg x38; let x40 : Int32 := x36 + (1 : Int32); (K1_m x40 M39))) := rfl
def ok_T_rom_l1 (a1 : Int32) (a2 : Int32) (a3 : Int32) (a4 : Int64) (n : Nat) : Int32 → Mem → Prop := Nat.rec (motive := fun _ => Int32 → Mem → Prop) (fun _ _ => False) (fun _ K1_ok x36 M37 => (((a3 ≤ x36) → True) ∧ ((¬ a3 ≤ x36) → ∀ x38 : Int32, x38 = f_T_octetOf_v M37 a4 x36 → vp_in (((a1 * (1024 : Int32)) + a2) + x36) 8192 ∧ (∀ M39 : Mem, M39 = mst M37 6 ((((a1 * (1024 : Int32)) + a2) + x36)).toNatClampNeg x38 → ∀ x40 : Int32, x40 = x36 + (1 : Int32) → K1_ok x40 M39)))) n
set_option maxRecDepth 100000 in
set_option maxHeartbeats 4000000 in
theorem sp_T_rom_l1 (a1 : Int32) (a2 : Int32) (a3 : Int32) (a4 : Int64) {Q : Int32 → Mem → Prop} : ∀ (n : Nat) (x36 : Int32) (M37 : Mem), ok_T_rom_l1 a1 a2 a3 a4 n x36 M37 → Q (f_T_rom_l1_v a1 a2 a3 a4 n x36 M37) (f_T_rom_l1_m a1 a2 a3 a4 n x36 M37) → wp_T_rom_l1 a1 a2 a3 a4 Q n x36 M37 := by
  intro n
  induction n with
  | zero => intro x36 M37 hok; exact False.elim hok
  | succ n ih =>
    intro x36 M37 hok hQ
    have hK1 := ih
    rw [f_T_rom_l1_v_s, f_T_rom_l1_m_s] at hQ
    refine ⟨fun hc => ?_, fun hc => ?_⟩
    · simp only [if_pos hc] at hQ
      exact hQ
    · simp only [if_neg hc] at hQ
      have hok := hok.2 hc
      refine sp_T_octetOf _ _ _ _ ?_
      have hok := hok _ rfl
      refine ⟨hok.1, ?_⟩
      have hok := hok.2
      intro M39 h_; subst h_
      have hok := hok _ rfl
      intro x40 h_; subst h_
      have hok := hok _ rfl
      exact hK1 _ _  hok hQ
def f_T_rom_v (M0 : Mem) (a1 : Int32) (a2 : Int32) (a3 : Int32) (a4 : Int64) : Int32 := (if a3 < (1 : Int32) then (f_T_rom_j1_v) else (if a3 ≤ (8 : Int32) then (if a1 < 0 then (f_T_rom_j2_v) else (if a1 < (8 : Int32) then (if a2 < 0 then (f_T_rom_j3_v) else (if a2 ≤ ((1024 : Int32) - a3) then (f_T_rom_l1_v a1 a2 a3 a4 9 (0 : Int32) M0) else (f_T_rom_j3_v))) else (f_T_rom_j2_v))) else (f_T_rom_j1_v)))
def f_T_rom_m (M0 : Mem) (a1 : Int32) (a2 : Int32) (a3 : Int32) (a4 : Int64) : Mem := (if a3 < (1 : Int32) then (f_T_rom_j1_m) else (if a3 ≤ (8 : Int32) then (if a1 < 0 then (f_T_rom_j2_m) else (if a1 < (8 : Int32) then (if a2 < 0 then (f_T_rom_j3_m) else (if a2 ≤ ((1024 : Int32) - a3) then (f_T_rom_l1_m a1 a2 a3 a4 9 (0 : Int32) M0) else (f_T_rom_j3_m))) else (f_T_rom_j2_m))) else (f_T_rom_j1_m)))
def ok_T_rom (M0 : Mem) (a1 : Int32) (a2 : Int32) (a3 : Int32) (a4 : Int64) : Prop := (((a3 < (1 : Int32)) → ok_T_rom_j1) ∧ ((¬ a3 < (1 : Int32)) → (((a3 ≤ (8 : Int32)) → (((a1 < 0) → ok_T_rom_j2) ∧ ((¬ a1 < 0) → (((a1 < (8 : Int32)) → (((a2 < 0) → ok_T_rom_j3) ∧ ((¬ a2 < 0) → (((a2 ≤ ((1024 : Int32) - a3)) → ok_T_rom_l1 a1 a2 a3 a4 9 (0 : Int32) M0) ∧ ((¬ a2 ≤ ((1024 : Int32) - a3)) → ok_T_rom_j3))))) ∧ ((¬ a1 < (8 : Int32)) → ok_T_rom_j2))))) ∧ ((¬ a3 ≤ (8 : Int32)) → ok_T_rom_j1))))
set_option maxRecDepth 100000 in
set_option maxHeartbeats 4000000 in
theorem sp_T_rom (M0 : Mem) (a1 : Int32) (a2 : Int32) (a3 : Int32) (a4 : Int64) (Q : Int32 → Mem → Prop) (hok : ok_T_rom M0 a1 a2 a3 a4) (hQ : Q (f_T_rom_v M0 a1 a2 a3 a4) (f_T_rom_m M0 a1 a2 a3 a4)) : wp_T_rom M0 a1 a2 a3 a4 Q := by
  unfold wp_T_rom
  unfold ok_T_rom at hok
  unfold f_T_rom_v f_T_rom_m at hQ
  refine ⟨fun hc => ?_, fun hc => ?_⟩
  · simp only [if_pos hc] at hQ
    have hok := hok.1 hc
    exact sp_T_rom_j1 _ hok hQ
  · simp only [if_neg hc] at hQ
    have hok := hok.2 hc
    refine ⟨fun hc => ?_, fun hc => ?_⟩
    · simp only [if_pos hc] at hQ
      have hok := hok.1 hc
      refine ⟨fun hc => ?_, fun hc => ?_⟩
      · simp only [if_pos hc] at hQ
        have hok := hok.1 hc
        exact sp_T_rom_j2 _ hok hQ
      · simp only [if_neg hc] at hQ
        have hok := hok.2 hc
        refine ⟨fun hc => ?_, fun hc => ?_⟩
        · simp only [if_pos hc] at hQ
          have hok := hok.1 hc
          refine ⟨fun hc => ?_, fun hc => ?_⟩
          · simp only [if_pos hc] at hQ
            have hok := hok.1 hc
            exact sp_T_rom_j3 _ hok hQ
          · simp only [if_neg hc] at hQ
            have hok := hok.2 hc
            refine ⟨fun hc => ?_, fun hc => ?_⟩
            · simp only [if_pos hc] at hQ
              have hok := hok.1 hc
              exact ⟨_, sp_T_rom_l1 _ _ _ _ _ _ _  hok hQ⟩
            · simp only [if_neg hc] at hQ
              have hok := hok.2 hc
              exact sp_T_rom_j3 _ hok hQ
        · simp only [if_neg hc] at hQ
          have hok := hok.2 hc
          exact sp_T_rom_j2 _ hok hQ
    · simp only [if_neg hc] at hQ
      have hok := hok.2 hc
      exact sp_T_rom_j1 _ hok hQ
def f_T_insert_j1_v : Int32 := 0
def f_T_insert_j1_m : Mem := (fun _ _ => 0)
def ok_T_insert_j1 : Prop := False
set_option maxRecDepth 100000 in
set_option maxHeartbeats 4000000 in
theorem sp_T_insert_j1 (Q : Int32 → Mem → Prop) (hok : ok_T_insert_j1 ) (hQ : Q (f_T_insert_j1_v ) (f_T_insert_j1_m )) : wp_T_insert_j1  Q := by
  unfold wp_T_insert_j1
  unfold ok_T_insert_j1 at hok
  unfold f_T_insert_j1_v f_T_insert_j1_m at hQ
  exact False.elim hok
def f_T_insert_v (M0 : Mem) (a1 : Int32) : Int32 := (if a1 < 0 then (f_T_insert_j1_v) else (if a1 ≤ (3 : Int32) then let x5 : Int32 := f_K_headerAgrees_v M0; (if x5 = 0 then 0 else (1 : Int32)) else (f_T_insert_j1_v)))
def f_T_insert_m (M0 : Mem) (a1 : Int32) : Mem := (if a1 < 0 then (f_T_insert_j1_m) else (if a1 ≤ (3 : Int32) then let x5 : Int32 := f_K_headerAgrees_v M0; (if x5 = 0 then (fun _ _ => 0) else let M6 : Mem := mst M0 1 2 (1 : Int32); let M7 : Mem := mst M6 1 3 a1; let M8 : Mem := f_T_startAnew_m M7; M8) else (f_T_insert_j1_m)))
def ok_T_insert (M0 : Mem) (a1 : Int32) : Prop := (((a1 < 0) → ok_T_insert_j1) ∧ ((¬ a1 < 0) → (((a1 ≤ (3 : Int32)) → ok_K_headerAgrees M0 ∧ (∀ x5 : Int32, x5 = f_K_headerAgrees_v M0 → (((¬ x5 = 0) → ∀ M6 : Mem, M6 = mst M0 1 2 (1 : Int32) → ∀ M7 : Mem, M7 = mst M6 1 3 a1 → ok_T_startAnew M7) ∧ ((x5 = 0) → False)))) ∧ ((¬ a1 ≤ (3 : Int32)) → ok_T_insert_j1))))
set_option maxRecDepth 100000 in
set_option maxHeartbeats 4000000 in
theorem sp_T_insert (M0 : Mem) (a1 : Int32) (Q : Int32 → Mem → Prop) (hok : ok_T_insert M0 a1) (hQ : Q (f_T_insert_v M0 a1) (f_T_insert_m M0 a1)) : wp_T_insert M0 a1 Q := by
  unfold wp_T_insert
  unfold ok_T_insert at hok
  unfold f_T_insert_v f_T_insert_m at hQ
  refine ⟨fun hc => ?_, fun hc => ?_⟩
  · simp only [if_pos hc] at hQ
    have hok := hok.1 hc
    exact sp_T_insert_j1 _ hok hQ
  · simp only [if_neg hc] at hQ
    have hok := hok.2 hc
    refine ⟨fun hc => ?_, fun hc => ?_⟩
    · simp only [if_pos hc] at hQ
      have hok := hok.1 hc
      refine sp_K_headerAgrees _ _ hok.1 ?_
      have hok := hok.2 _ rfl
      refine ⟨fun hc => ?_, fun hc => ?_⟩
      · simp only [if_neg hc] at hQ
        have hok := hok.1 hc
        intro M6 h_; subst h_
        have hok := hok _ rfl
        intro M7 h_; subst h_
        have hok := hok _ rfl
        refine sp_T_startAnew _ _ hok ?_
        exact hQ
      · simp only [if_pos hc] at hQ
        have hok := hok.2 hc
        exact False.elim hok
    · simp only [if_neg hc] at hQ
      have hok := hok.2 hc
      exact sp_T_insert_j1 _ hok hQ
def f_T_run_j1_v : Int32 := 0
def f_T_run_j1_m : Mem := (fun _ _ => 0)
def ok_T_run_j1 : Prop := False
set_option maxRecDepth 100000 in
set_option maxHeartbeats 4000000 in
theorem sp_T_run_j1 (Q : Int32 → Mem → Prop) (hok : ok_T_run_j1 ) (hQ : Q (f_T_run_j1_v ) (f_T_run_j1_m )) : wp_T_run_j1  Q := by
  unfold wp_T_run_j1
  unfold ok_T_run_j1 at hok
  unfold f_T_run_j1_v f_T_run_j1_m at hQ
  exact False.elim hok
def f_T_run_j2_v (x11 : Int32) (K1_v : Int32 → Mem → Int32) (M16 : Mem) : Int32 := (if (M16 5 5) = 0 then let x17 : Int32 := x11 + (1 : Int32); (K1_v x17 M16) else 0)
def f_T_run_j2_m (x11 : Int32) (K1_m : Int32 → Mem → Mem) (M16 : Mem) : Mem := (if (M16 5 5) = 0 then let x17 : Int32 := x11 + (1 : Int32); (K1_m x17 M16) else (fun _ _ => 0))
def ok_T_run_j2 (x11 : Int32) (K1_ok : Int32 → Mem → Prop) (M16 : Mem) : Prop := ((((M16 5 5) = 0) → ∀ x17 : Int32, x17 = x11 + (1 : Int32) → K1_ok x17 M16) ∧ ((¬ (M16 5 5) = 0) → False))
set_option maxRecDepth 100000 in
set_option maxHeartbeats 4000000 in
theorem sp_T_run_j2 (x11 : Int32) {Q : Int32 → Mem → Prop} (K1 : Int32 → Mem → Prop) (K1_v : Int32 → Mem → Int32) (K1_m : Int32 → Mem → Mem) (K1_ok : Int32 → Mem → Prop) (hK1 : ∀ (z0 : Int32) (z1 : Mem), K1_ok z0 z1 → Q (K1_v z0 z1) (K1_m z0 z1) → K1 z0 z1) (M16 : Mem) (hok : ok_T_run_j2 x11 K1_ok M16) (hQ : Q (f_T_run_j2_v x11 K1_v M16) (f_T_run_j2_m x11 K1_m M16)) : wp_T_run_j2 x11 K1 M16 Q := by
  unfold wp_T_run_j2
  unfold ok_T_run_j2 at hok
  unfold f_T_run_j2_v f_T_run_j2_m at hQ
  refine ⟨fun hc => ?_, fun hc => ?_⟩
  · simp only [if_pos hc] at hQ
    have hok := hok.1 hc
    intro x17 h_; subst h_
    have hok := hok _ rfl
    exact hK1 _ _  hok hQ
  · simp only [if_neg hc] at hQ
    have hok := hok.2 hc
    exact False.elim hok
def f_T_run_l1_v (a1 : Int32) (x10 : Int32) (n : Nat) : Int32 → Mem → Int32 := Nat.rec (motive := fun _ => Int32 → Mem → Int32) (fun _ _ => 0) (fun _ K1_v x11 M12 => (if a1 ≤ x11 then ((M12 5 0) - x10) else (if (M12 5 5) = 0 then let M18 : Mem := f_Q_step_m M12; (f_T_run_j2_v x11 K1_v M18) else (f_T_run_j2_v x11 K1_v M12)))) n
theorem f_T_run_l1_v_s (a1 : Int32) (x10 : Int32) (n : Nat) (x11 : Int32) (M12 : Mem) : f_T_run_l1_v a1 x10 (n + 1) x11 M12 = (let K1_v : Int32 → Mem → Int32 := f_T_run_l1_v a1 x10 n; (if a1 ≤ x11 then ((M12 5 0) - x10) else (if (M12 5 5) = 0 then let M18 : Mem := f_Q_step_m M12; (f_T_run_j2_v x11 K1_v M18) else (f_T_run_j2_v x11 K1_v M12)))) := rfl
def f_T_run_l1_m (a1 : Int32) (x10 : Int32) (n : Nat) : Int32 → Mem → Mem := Nat.rec (motive := fun _ => Int32 → Mem → Mem) (fun _ _ => (fun _ _ => 0)) (fun _ K1_m x11 M12 => (if a1 ≤ x11 then M12 else (if (M12 5 5) = 0 then let M18 : Mem := f_Q_step_m M12; (f_T_run_j2_m x11 K1_m M18) else (f_T_run_j2_m x11 K1_m M12)))) n
theorem f_T_run_l1_m_s (a1 : Int32) (x10 : Int32) (n : Nat) (x11 : Int32) (M12 : Mem) : f_T_run_l1_m a1 x10 (n + 1) x11 M12 = (let K1_m : Int32 → Mem → Mem := f_T_run_l1_m a1 x10 n; (if a1 ≤ x11 then M12 else (if (M12 5 5) = 0 then let M18 : Mem := f_Q_step_m M12; (f_T_run_j2_m x11 K1_m M18) else (f_T_run_j2_m x11 K1_m M12)))) := rfl
def ok_T_run_l1 (a1 : Int32) (x10 : Int32) (n : Nat) : Int32 → Mem → Prop := Nat.rec (motive := fun _ => Int32 → Mem → Prop) (fun _ _ => False) (fun _ K1_ok x11 M12 => (((a1 ≤ x11) → True) ∧ ((¬ a1 ≤ x11) → (((¬ (M12 5 5) = 0) → ok_T_run_j2 x11 K1_ok M12) ∧ (((M12 5 5) = 0) → ok_Q_step M12 ∧ (∀ M18 : Mem, M18 = f_Q_step_m M12 → ok_T_run_j2 x11 K1_ok M18)))))) n
set_option maxRecDepth 100000 in
set_option maxHeartbeats 4000000 in
theorem sp_T_run_l1 (a1 : Int32) (x10 : Int32) {Q : Int32 → Mem → Prop} : ∀ (n : Nat) (x11 : Int32) (M12 : Mem), ok_T_run_l1 a1 x10 n x11 M12 → Q (f_T_run_l1_v a1 x10 n x11 M12) (f_T_run_l1_m a1 x10 n x11 M12) → wp_T_run_l1 a1 x10 Q n x11 M12 := by
  intro n
  induction n with
  | zero => intro x11 M12 hok; exact False.elim hok
  | succ n ih =>
    intro x11 M12 hok hQ
    have hK1 := ih
    rw [f_T_run_l1_v_s, f_T_run_l1_m_s] at hQ
    refine ⟨fun hc => ?_, fun hc => ?_⟩
    · simp only [if_pos hc] at hQ
      exact hQ
    · simp only [if_neg hc] at hQ
      have hok := hok.2 hc
      refine ⟨fun hc => ?_, fun hc => ?_⟩
      · simp only [if_neg hc] at hQ
        have hok := hok.1 hc
        exact sp_T_run_j2 _ _ _ _ _ hK1 _  hok hQ
      · simp only [if_pos hc] at hQ
        have hok := hok.2 hc
        refine sp_Q_step _ _ hok.1 ?_
        have hok := hok.2 _ rfl
        exact sp_T_run_j2 _ _ _ _ _ hK1 _  hok hQ
def f_T_run_v (M0 : Mem) (a1 : Int32) : Int32 := (if a1 < (1 : Int32) then (f_T_run_j1_v) else (if a1 ≤ (100 : Int32) then (if (M0 1 2) = 0 then 0 else let x10 : Int32 := (M0 5 0); (f_T_run_l1_v a1 x10 101 (0 : Int32) M0)) else (f_T_run_j1_v)))
def f_T_run_m (M0 : Mem) (a1 : Int32) : Mem := (if a1 < (1 : Int32) then (f_T_run_j1_m) else (if a1 ≤ (100 : Int32) then (if (M0 1 2) = 0 then (fun _ _ => 0) else let x10 : Int32 := (M0 5 0); (f_T_run_l1_m a1 x10 101 (0 : Int32) M0)) else (f_T_run_j1_m)))
def ok_T_run (M0 : Mem) (a1 : Int32) : Prop := (((a1 < (1 : Int32)) → ok_T_run_j1) ∧ ((¬ a1 < (1 : Int32)) → (((a1 ≤ (100 : Int32)) → (((¬ (M0 1 2) = 0) → ∀ x10 : Int32, x10 = (M0 5 0) → ok_T_run_l1 a1 x10 101 (0 : Int32) M0) ∧ (((M0 1 2) = 0) → False))) ∧ ((¬ a1 ≤ (100 : Int32)) → ok_T_run_j1))))
set_option maxRecDepth 100000 in
set_option maxHeartbeats 4000000 in
theorem sp_T_run (M0 : Mem) (a1 : Int32) (Q : Int32 → Mem → Prop) (hok : ok_T_run M0 a1) (hQ : Q (f_T_run_v M0 a1) (f_T_run_m M0 a1)) : wp_T_run M0 a1 Q := by
  unfold wp_T_run
  unfold ok_T_run at hok
  unfold f_T_run_v f_T_run_m at hQ
  refine ⟨fun hc => ?_, fun hc => ?_⟩
  · simp only [if_pos hc] at hQ
    have hok := hok.1 hc
    exact sp_T_run_j1 _ hok hQ
  · simp only [if_neg hc] at hQ
    have hok := hok.2 hc
    refine ⟨fun hc => ?_, fun hc => ?_⟩
    · simp only [if_pos hc] at hQ
      have hok := hok.1 hc
      refine ⟨fun hc => ?_, fun hc => ?_⟩
      · simp only [if_neg hc] at hQ
        have hok := hok.1 hc
        intro x10 h_; subst h_
        have hok := hok _ rfl
        exact ⟨_, sp_T_run_l1 _ _ _ _ _  hok hQ⟩
      · simp only [if_pos hc] at hQ
        have hok := hok.2 hc
        exact False.elim hok
    · simp only [if_neg hc] at hQ
      have hok := hok.2 hc
      exact sp_T_run_j1 _ hok hQ
def f_T_set_j1_v : Int32 := 0
def f_T_set_j1_m : Mem := (fun _ _ => 0)
def ok_T_set_j1 : Prop := False
set_option maxRecDepth 100000 in
set_option maxHeartbeats 4000000 in
theorem sp_T_set_j1 (Q : Int32 → Mem → Prop) (hok : ok_T_set_j1 ) (hQ : Q (f_T_set_j1_v ) (f_T_set_j1_m )) : wp_T_set_j1  Q := by
  unfold wp_T_set_j1
  unfold ok_T_set_j1 at hok
  unfold f_T_set_j1_v f_T_set_j1_m at hQ
  exact False.elim hok
def f_T_set_v (M0 : Mem) (a1 : Int32) (a2 : Int32) : Int32 := (if a1 < 0 then (f_T_set_j1_v) else (if a1 ≤ (9 : Int32) then let x3 : Int32 := f_Q_valueOf_v M0 a1; x3 else (f_T_set_j1_v)))
def f_T_set_m (M0 : Mem) (a1 : Int32) (a2 : Int32) : Mem := (if a1 < 0 then (f_T_set_j1_m) else (if a1 ≤ (9 : Int32) then let M4 : Mem := f_Q_put_m M0 a1 a2; M4 else (f_T_set_j1_m)))
def ok_T_set (M0 : Mem) (a1 : Int32) (a2 : Int32) : Prop := (((a1 < 0) → ok_T_set_j1) ∧ ((¬ a1 < 0) → (((a1 ≤ (9 : Int32)) → ok_Q_valueOf M0 a1 ∧ (∀ x3 : Int32, x3 = f_Q_valueOf_v M0 a1 → ok_Q_put M0 a1 a2)) ∧ ((¬ a1 ≤ (9 : Int32)) → ok_T_set_j1))))
set_option maxRecDepth 100000 in
set_option maxHeartbeats 4000000 in
theorem sp_T_set (M0 : Mem) (a1 : Int32) (a2 : Int32) (Q : Int32 → Mem → Prop) (hok : ok_T_set M0 a1 a2) (hQ : Q (f_T_set_v M0 a1 a2) (f_T_set_m M0 a1 a2)) : wp_T_set M0 a1 a2 Q := by
  unfold wp_T_set
  unfold ok_T_set at hok
  unfold f_T_set_v f_T_set_m at hQ
  refine ⟨fun hc => ?_, fun hc => ?_⟩
  · simp only [if_pos hc] at hQ
    have hok := hok.1 hc
    exact sp_T_set_j1 _ hok hQ
  · simp only [if_neg hc] at hQ
    have hok := hok.2 hc
    refine ⟨fun hc => ?_, fun hc => ?_⟩
    · simp only [if_pos hc] at hQ
      have hok := hok.1 hc
      refine sp_Q_valueOf _ _ _ hok.1 ?_
      have hok := hok.2 _ rfl
      refine sp_Q_put _ _ _ _ hok ?_
      exact hQ
    · simp only [if_neg hc] at hQ
      have hok := hok.2 hc
      exact sp_T_set_j1 _ hok hQ
def f_T_register_j1_v : Int32 := 0
def ok_T_register_j1 : Prop := False
set_option maxRecDepth 100000 in
set_option maxHeartbeats 4000000 in
theorem sp_T_register_j1 (Q : Int32 → Prop) (hok : ok_T_register_j1 ) (hQ : Q (f_T_register_j1_v )) : wp_T_register_j1  Q := by
  unfold wp_T_register_j1
  unfold ok_T_register_j1 at hok
  unfold f_T_register_j1_v at hQ
  exact False.elim hok
def f_T_register_v (M0 : Mem) (a1 : Int32) : Int32 := (if a1 < 0 then (f_T_register_j1_v) else (if a1 ≤ (9 : Int32) then let x2 : Int32 := f_Q_valueOf_v M0 a1; x2 else (f_T_register_j1_v)))
def ok_T_register (M0 : Mem) (a1 : Int32) : Prop := (((a1 < 0) → ok_T_register_j1) ∧ ((¬ a1 < 0) → (((a1 ≤ (9 : Int32)) → ok_Q_valueOf M0 a1) ∧ ((¬ a1 ≤ (9 : Int32)) → ok_T_register_j1))))
set_option maxRecDepth 100000 in
set_option maxHeartbeats 4000000 in
theorem sp_T_register (M0 : Mem) (a1 : Int32) (Q : Int32 → Prop) (hok : ok_T_register M0 a1) (hQ : Q (f_T_register_v M0 a1)) : wp_T_register M0 a1 Q := by
  unfold wp_T_register
  unfold ok_T_register at hok
  unfold f_T_register_v at hQ
  refine ⟨fun hc => ?_, fun hc => ?_⟩
  · simp only [if_pos hc] at hQ
    have hok := hok.1 hc
    exact sp_T_register_j1 _ hok hQ
  · simp only [if_neg hc] at hQ
    have hok := hok.2 hc
    refine ⟨fun hc => ?_, fun hc => ?_⟩
    · simp only [if_pos hc] at hQ
      have hok := hok.1 hc
      refine sp_Q_valueOf _ _ _ hok ?_
      exact hQ
    · simp only [if_neg hc] at hQ
      have hok := hok.2 hc
      exact sp_T_register_j1 _ hok hQ
def f_T_read_j1_v : Int32 := 0
def ok_T_read_j1 : Prop := False
set_option maxRecDepth 100000 in
set_option maxHeartbeats 4000000 in
theorem sp_T_read_j1 (Q : Int32 → Prop) (hok : ok_T_read_j1 ) (hQ : Q (f_T_read_j1_v )) : wp_T_read_j1  Q := by
  unfold wp_T_read_j1
  unfold ok_T_read_j1 at hok
  unfold f_T_read_j1_v at hQ
  exact False.elim hok
def f_T_read_v (M0 : Mem) (a1 : Int32) : Int32 := (if a1 < 0 then (f_T_read_j1_v) else (if a1 ≤ (65535 : Int32) then let x2 : Int32 := f_Y_load_v M0 a1; x2 else (f_T_read_j1_v)))
def ok_T_read (M0 : Mem) (a1 : Int32) : Prop := (((a1 < 0) → ok_T_read_j1) ∧ ((¬ a1 < 0) → (((a1 ≤ (65535 : Int32)) → ok_Y_load M0 a1) ∧ ((¬ a1 ≤ (65535 : Int32)) → ok_T_read_j1))))
set_option maxRecDepth 100000 in
set_option maxHeartbeats 4000000 in
theorem sp_T_read (M0 : Mem) (a1 : Int32) (Q : Int32 → Prop) (hok : ok_T_read M0 a1) (hQ : Q (f_T_read_v M0 a1)) : wp_T_read M0 a1 Q := by
  unfold wp_T_read
  unfold ok_T_read at hok
  unfold f_T_read_v at hQ
  refine ⟨fun hc => ?_, fun hc => ?_⟩
  · simp only [if_pos hc] at hQ
    have hok := hok.1 hc
    exact sp_T_read_j1 _ hok hQ
  · simp only [if_neg hc] at hQ
    have hok := hok.2 hc
    refine ⟨fun hc => ?_, fun hc => ?_⟩
    · simp only [if_pos hc] at hQ
      have hok := hok.1 hc
      refine sp_Y_load _ _ _ hok ?_
      exact hQ
    · simp only [if_neg hc] at hQ
      have hok := hok.2 hc
      exact sp_T_read_j1 _ hok hQ
def f_T_write_j1_v : Int32 := 0
def f_T_write_j1_m : Mem := (fun _ _ => 0)
def ok_T_write_j1 : Prop := False
set_option maxRecDepth 100000 in
set_option maxHeartbeats 4000000 in
theorem sp_T_write_j1 (Q : Int32 → Mem → Prop) (hok : ok_T_write_j1 ) (hQ : Q (f_T_write_j1_v ) (f_T_write_j1_m )) : wp_T_write_j1  Q := by
  unfold wp_T_write_j1
  unfold ok_T_write_j1 at hok
  unfold f_T_write_j1_v f_T_write_j1_m at hQ
  exact False.elim hok
def f_T_write_j2_v : Int32 := 0
def f_T_write_j2_m : Mem := (fun _ _ => 0)
def ok_T_write_j2 : Prop := False
set_option maxRecDepth 100000 in
set_option maxHeartbeats 4000000 in
theorem sp_T_write_j2 (Q : Int32 → Mem → Prop) (hok : ok_T_write_j2 ) (hQ : Q (f_T_write_j2_v ) (f_T_write_j2_m )) : wp_T_write_j2  Q := by
  unfold wp_T_write_j2
  unfold ok_T_write_j2 at hok
  unfold f_T_write_j2_v f_T_write_j2_m at hQ
  exact False.elim hok
def f_T_write_l1_v (a1 : Int32) (a2 : Int32) (a3 : Int64) (n : Nat) : Int32 → Mem → Int32 := Nat.rec (motive := fun _ => Int32 → Mem → Int32) (fun _ _ => 0) (fun _ K1_v x16 M17 => (if a2 ≤ x16 then a2 else let x18 : Int32 := f_T_octetOf_v M17 a3 x16; let M19 : Mem := f_Y_store_m M17 (a1 + x16) x18; let x20 : Int32 := x16 + (1 : Int32); (K1_v x20 M19))) n
theorem f_T_write_l1_v_s (a1 : Int32) (a2 : Int32) (a3 : Int64) (n : Nat) (x16 : Int32) (M17 : Mem) : f_T_write_l1_v a1 a2 a3 (n + 1) x16 M17 = (let K1_v : Int32 → Mem → Int32 := f_T_write_l1_v a1 a2 a3 n; (if a2 ≤ x16 then a2 else let x18 : Int32 := f_T_octetOf_v M17 a3 x16; let M19 : Mem := f_Y_store_m M17 (a1 + x16) x18; let x20 : Int32 := x16 + (1 : Int32); (K1_v x20 M19))) := rfl
def f_T_write_l1_m (a1 : Int32) (a2 : Int32) (a3 : Int64) (n : Nat) : Int32 → Mem → Mem := Nat.rec (motive := fun _ => Int32 → Mem → Mem) (fun _ _ => (fun _ _ => 0)) (fun _ K1_m x16 M17 => (if a2 ≤ x16 then M17 else let x18 : Int32 := f_T_octetOf_v M17 a3 x16; let M19 : Mem := f_Y_store_m M17 (a1 + x16) x18; let x20 : Int32 := x16 + (1 : Int32); (K1_m x20 M19))) n
theorem f_T_write_l1_m_s (a1 : Int32) (a2 : Int32) (a3 : Int64) (n : Nat) (x16 : Int32) (M17 : Mem) : f_T_write_l1_m a1 a2 a3 (n + 1) x16 M17 = (let K1_m : Int32 → Mem → Mem := f_T_write_l1_m a1 a2 a3 n; (if a2 ≤ x16 then M17 else let x18 : Int32 := f_T_octetOf_v M17 a3 x16; let M19 : Mem := f_Y_store_m M17 (a1 + x16) x18; let x20 : Int32 := x16 + (1 : Int32); (K1_m x20 M19))) := rfl
def ok_T_write_l1 (a1 : Int32) (a2 : Int32) (a3 : Int64) (n : Nat) : Int32 → Mem → Prop := Nat.rec (motive := fun _ => Int32 → Mem → Prop) (fun _ _ => False) (fun _ K1_ok x16 M17 => (((a2 ≤ x16) → True) ∧ ((¬ a2 ≤ x16) → ∀ x18 : Int32, x18 = f_T_octetOf_v M17 a3 x16 → ok_Y_store M17 (a1 + x16) x18 ∧ (∀ M19 : Mem, M19 = f_Y_store_m M17 (a1 + x16) x18 → ∀ x20 : Int32, x20 = x16 + (1 : Int32) → K1_ok x20 M19)))) n
set_option maxRecDepth 100000 in
set_option maxHeartbeats 4000000 in
theorem sp_T_write_l1 (a1 : Int32) (a2 : Int32) (a3 : Int64) {Q : Int32 → Mem → Prop} : ∀ (n : Nat) (x16 : Int32) (M17 : Mem), ok_T_write_l1 a1 a2 a3 n x16 M17 → Q (f_T_write_l1_v a1 a2 a3 n x16 M17) (f_T_write_l1_m a1 a2 a3 n x16 M17) → wp_T_write_l1 a1 a2 a3 Q n x16 M17 := by
  intro n
  induction n with
  | zero => intro x16 M17 hok; exact False.elim hok
  | succ n ih =>
    intro x16 M17 hok hQ
    have hK1 := ih
    rw [f_T_write_l1_v_s, f_T_write_l1_m_s] at hQ
    refine ⟨fun hc => ?_, fun hc => ?_⟩
    · simp only [if_pos hc] at hQ
      exact hQ
    · simp only [if_neg hc] at hQ
      have hok := hok.2 hc
      refine sp_T_octetOf _ _ _ _ ?_
      have hok := hok _ rfl
      refine sp_Y_store _ _ _ _ hok.1 ?_
      have hok := hok.2 _ rfl
      intro x20 h_; subst h_
      have hok := hok _ rfl
      exact hK1 _ _  hok hQ
def f_T_write_v (M0 : Mem) (a1 : Int32) (a2 : Int32) (a3 : Int64) : Int32 := (if a2 < (1 : Int32) then (f_T_write_j1_v) else (if a2 ≤ (8 : Int32) then (if a1 < 0 then (f_T_write_j2_v) else (if a1 ≤ ((65536 : Int32) - a2) then (f_T_write_l1_v a1 a2 a3 9 (0 : Int32) M0) else (f_T_write_j2_v))) else (f_T_write_j1_v)))
def f_T_write_m (M0 : Mem) (a1 : Int32) (a2 : Int32) (a3 : Int64) : Mem := (if a2 < (1 : Int32) then (f_T_write_j1_m) else (if a2 ≤ (8 : Int32) then (if a1 < 0 then (f_T_write_j2_m) else (if a1 ≤ ((65536 : Int32) - a2) then (f_T_write_l1_m a1 a2 a3 9 (0 : Int32) M0) else (f_T_write_j2_m))) else (f_T_write_j1_m)))
def ok_T_write (M0 : Mem) (a1 : Int32) (a2 : Int32) (a3 : Int64) : Prop := (((a2 < (1 : Int32)) → ok_T_write_j1) ∧ ((¬ a2 < (1 : Int32)) → (((a2 ≤ (8 : Int32)) → (((a1 < 0) → ok_T_write_j2) ∧ ((¬ a1 < 0) → (((a1 ≤ ((65536 : Int32) - a2)) → ok_T_write_l1 a1 a2 a3 9 (0 : Int32) M0) ∧ ((¬ a1 ≤ ((65536 : Int32) - a2)) → ok_T_write_j2))))) ∧ ((¬ a2 ≤ (8 : Int32)) → ok_T_write_j1))))
set_option maxRecDepth 100000 in
set_option maxHeartbeats 4000000 in
theorem sp_T_write (M0 : Mem) (a1 : Int32) (a2 : Int32) (a3 : Int64) (Q : Int32 → Mem → Prop) (hok : ok_T_write M0 a1 a2 a3) (hQ : Q (f_T_write_v M0 a1 a2 a3) (f_T_write_m M0 a1 a2 a3)) : wp_T_write M0 a1 a2 a3 Q := by
  unfold wp_T_write
  unfold ok_T_write at hok
  unfold f_T_write_v f_T_write_m at hQ
  refine ⟨fun hc => ?_, fun hc => ?_⟩
  · simp only [if_pos hc] at hQ
    have hok := hok.1 hc
    exact sp_T_write_j1 _ hok hQ
  · simp only [if_neg hc] at hQ
    have hok := hok.2 hc
    refine ⟨fun hc => ?_, fun hc => ?_⟩
    · simp only [if_pos hc] at hQ
      have hok := hok.1 hc
      refine ⟨fun hc => ?_, fun hc => ?_⟩
      · simp only [if_pos hc] at hQ
        have hok := hok.1 hc
        exact sp_T_write_j2 _ hok hQ
      · simp only [if_neg hc] at hQ
        have hok := hok.2 hc
        refine ⟨fun hc => ?_, fun hc => ?_⟩
        · simp only [if_pos hc] at hQ
          have hok := hok.1 hc
          exact ⟨_, sp_T_write_l1 _ _ _ _ _ _  hok hQ⟩
        · simp only [if_neg hc] at hQ
          have hok := hok.2 hc
          exact sp_T_write_j2 _ hok hQ
    · simp only [if_neg hc] at hQ
      have hok := hok.2 hc
      exact sp_T_write_j1 _ hok hQ
def f_T_keys_j1_v : Int32 := 0
def f_T_keys_j1_m : Mem := (fun _ _ => 0)
def ok_T_keys_j1 : Prop := False
set_option maxRecDepth 100000 in
set_option maxHeartbeats 4000000 in
theorem sp_T_keys_j1 (Q : Int32 → Mem → Prop) (hok : ok_T_keys_j1 ) (hQ : Q (f_T_keys_j1_v ) (f_T_keys_j1_m )) : wp_T_keys_j1  Q := by
  unfold wp_T_keys_j1
  unfold ok_T_keys_j1 at hok
  unfold f_T_keys_j1_v f_T_keys_j1_m at hQ
  exact False.elim hok
def f_T_keys_v (M0 : Mem) (a1 : Int32) : Int32 := (if a1 < 0 then (f_T_keys_j1_v) else (if a1 ≤ (255 : Int32) then let x3 : Int32 := f_P_press_v M0 a1; x3 else (f_T_keys_j1_v)))
def f_T_keys_m (M0 : Mem) (a1 : Int32) : Mem := (if a1 < 0 then (f_T_keys_j1_m) else (if a1 ≤ (255 : Int32) then let M4 : Mem := f_P_press_m M0 a1; M4 else (f_T_keys_j1_m)))
def ok_T_keys (M0 : Mem) (a1 : Int32) : Prop := (((a1 < 0) → ok_T_keys_j1) ∧ ((¬ a1 < 0) → (((a1 ≤ (255 : Int32)) → True) ∧ ((¬ a1 ≤ (255 : Int32)) → ok_T_keys_j1))))
set_option maxRecDepth 100000 in
set_option maxHeartbeats 4000000 in
theorem sp_T_keys (M0 : Mem) (a1 : Int32) (Q : Int32 → Mem → Prop) (hok : ok_T_keys M0 a1) (hQ : Q (f_T_keys_v M0 a1) (f_T_keys_m M0 a1)) : wp_T_keys M0 a1 Q := by
  unfold wp_T_keys
  unfold ok_T_keys at hok
  unfold f_T_keys_v f_T_keys_m at hQ
  refine ⟨fun hc => ?_, fun hc => ?_⟩
  · simp only [if_pos hc] at hQ
    have hok := hok.1 hc
    exact sp_T_keys_j1 _ hok hQ
  · simp only [if_neg hc] at hQ
    have hok := hok.2 hc
    refine ⟨fun hc => ?_, fun hc => ?_⟩
    · simp only [if_pos hc] at hQ
      refine sp_P_press _ _ _ ?_
      exact hQ
    · simp only [if_neg hc] at hQ
      have hok := hok.2 hc
      exact sp_T_keys_j1 _ hok hQ
def f_T_row_j1_v : Int32 := 0
def f_T_row_j1_m : Mem := (fun _ _ => 0)
def ok_T_row_j1 : Prop := False
set_option maxRecDepth 100000 in
set_option maxHeartbeats 4000000 in
theorem sp_T_row_j1 (Q : Int32 → Mem → Prop) (hok : ok_T_row_j1 ) (hQ : Q (f_T_row_j1_v ) (f_T_row_j1_m )) : wp_T_row_j1  Q := by
  unfold wp_T_row_j1
  unfold ok_T_row_j1 at hok
  unfold f_T_row_j1_v f_T_row_j1_m at hQ
  exact False.elim hok
def f_T_row_v (M0 : Mem) (a1 : Int32) : Int32 := (if a1 < 0 then (f_T_row_j1_v) else (if a1 < (144 : Int32) then let x3 : Int32 := f_S_make_v M0 a1; x3 else (f_T_row_j1_v)))
def f_T_row_m (M0 : Mem) (a1 : Int32) : Mem := (if a1 < 0 then (f_T_row_j1_m) else (if a1 < (144 : Int32) then let M4 : Mem := f_S_make_m M0 a1; M4 else (f_T_row_j1_m)))
def ok_T_row (M0 : Mem) (a1 : Int32) : Prop := (((a1 < 0) → ok_T_row_j1) ∧ ((¬ a1 < 0) → (((a1 < (144 : Int32)) → ok_S_make M0 a1) ∧ ((¬ a1 < (144 : Int32)) → ok_T_row_j1))))
set_option maxRecDepth 100000 in
set_option maxHeartbeats 4000000 in
theorem sp_T_row (M0 : Mem) (a1 : Int32) (Q : Int32 → Mem → Prop) (hok : ok_T_row M0 a1) (hQ : Q (f_T_row_v M0 a1) (f_T_row_m M0 a1)) : wp_T_row M0 a1 Q := by
  unfold wp_T_row
  unfold ok_T_row at hok
  unfold f_T_row_v f_T_row_m at hQ
  refine ⟨fun hc => ?_, fun hc => ?_⟩
  · simp only [if_pos hc] at hQ
    have hok := hok.1 hc
    exact sp_T_row_j1 _ hok hQ
  · simp only [if_neg hc] at hQ
    have hok := hok.2 hc
    refine ⟨fun hc => ?_, fun hc => ?_⟩
    · simp only [if_pos hc] at hQ
      have hok := hok.1 hc
      refine sp_S_make _ _ _ hok ?_
      exact hQ
    · simp only [if_neg hc] at hQ
      have hok := hok.2 hc
      exact sp_T_row_j1 _ hok hQ
def f_T_pixel_j1_v : Int32 := 0
def ok_T_pixel_j1 : Prop := False
set_option maxRecDepth 100000 in
set_option maxHeartbeats 4000000 in
theorem sp_T_pixel_j1 (Q : Int32 → Prop) (hok : ok_T_pixel_j1 ) (hQ : Q (f_T_pixel_j1_v )) : wp_T_pixel_j1  Q := by
  unfold wp_T_pixel_j1
  unfold ok_T_pixel_j1 at hok
  unfold f_T_pixel_j1_v at hQ
  exact False.elim hok
def f_T_pixel_v (M0 : Mem) (a1 : Int32) : Int32 := (if a1 < 0 then (f_T_pixel_j1_v) else (if a1 < (160 : Int32) then (M0 13 a1.toNatClampNeg) else (f_T_pixel_j1_v)))
def ok_T_pixel (M0 : Mem) (a1 : Int32) : Prop := (((a1 < 0) → ok_T_pixel_j1) ∧ ((¬ a1 < 0) → (((a1 < (160 : Int32)) → vp_in a1 160) ∧ ((¬ a1 < (160 : Int32)) → ok_T_pixel_j1))))
set_option maxRecDepth 100000 in
set_option maxHeartbeats 4000000 in
theorem sp_T_pixel (M0 : Mem) (a1 : Int32) (Q : Int32 → Prop) (hok : ok_T_pixel M0 a1) (hQ : Q (f_T_pixel_v M0 a1)) : wp_T_pixel M0 a1 Q := by
  unfold wp_T_pixel
  unfold ok_T_pixel at hok
  unfold f_T_pixel_v at hQ
  refine ⟨fun hc => ?_, fun hc => ?_⟩
  · simp only [if_pos hc] at hQ
    have hok := hok.1 hc
    exact sp_T_pixel_j1 _ hok hQ
  · simp only [if_neg hc] at hQ
    have hok := hok.2 hc
    refine ⟨fun hc => ?_, fun hc => ?_⟩
    · simp only [if_pos hc] at hQ
      have hok := hok.1 hc
      refine ⟨hok, ?_⟩
      exact hQ
    · simp only [if_neg hc] at hQ
      have hok := hok.2 hc
      exact sp_T_pixel_j1 _ hok hQ
def f_T_count_j1_v (x2 : Int32) : Int32 := x2
set_option maxRecDepth 100000 in
set_option maxHeartbeats 4000000 in
theorem sp_T_count_j1 (x2 : Int32) (Q : Int32 → Prop) (hQ : Q (f_T_count_j1_v x2)) : wp_T_count_j1 x2 Q := by
  unfold wp_T_count_j1
  unfold f_T_count_j1_v at hQ
  exact hQ
def f_T_count_j2_v (x4 : Int32) : Int32 := x4
set_option maxRecDepth 100000 in
set_option maxHeartbeats 4000000 in
theorem sp_T_count_j2 (x4 : Int32) (Q : Int32 → Prop) (hQ : Q (f_T_count_j2_v x4)) : wp_T_count_j2 x4 Q := by
  unfold wp_T_count_j2
  unfold f_T_count_j2_v at hQ
  exact hQ
def f_T_count_j3_v (x6 : Int32) : Int32 := x6
set_option maxRecDepth 100000 in
set_option maxHeartbeats 4000000 in
theorem sp_T_count_j3 (x6 : Int32) (Q : Int32 → Prop) (hQ : Q (f_T_count_j3_v x6)) : wp_T_count_j3 x6 Q := by
  unfold wp_T_count_j3
  unfold f_T_count_j3_v at hQ
  exact hQ
def f_T_count_j4_v (x8 : Int32) : Int32 := x8
set_option maxRecDepth 100000 in
set_option maxHeartbeats 4000000 in
theorem sp_T_count_j4 (x8 : Int32) (Q : Int32 → Prop) (hQ : Q (f_T_count_j4_v x8)) : wp_T_count_j4 x8 Q := by
  unfold wp_T_count_j4
  unfold f_T_count_j4_v at hQ
  exact hQ
def f_T_count_j5_v (x10 : Int32) : Int32 := x10
set_option maxRecDepth 100000 in
set_option maxHeartbeats 4000000 in
theorem sp_T_count_j5 (x10 : Int32) (Q : Int32 → Prop) (hQ : Q (f_T_count_j5_v x10)) : wp_T_count_j5 x10 Q := by
  unfold wp_T_count_j5
  unfold f_T_count_j5_v at hQ
  exact hQ
def f_T_count_j6_v (x12 : Int32) : Int32 := x12
set_option maxRecDepth 100000 in
set_option maxHeartbeats 4000000 in
theorem sp_T_count_j6 (x12 : Int32) (Q : Int32 → Prop) (hQ : Q (f_T_count_j6_v x12)) : wp_T_count_j6 x12 Q := by
  unfold wp_T_count_j6
  unfold f_T_count_j6_v at hQ
  exact hQ
def f_T_count_v (M0 : Mem) (a1 : Int32) : Int32 := (if (a1 = (0 : Int32)) then (M0 5 0) else (if (a1 = (1 : Int32)) then (M0 5 1) else (if (a1 = (2 : Int32)) then (if (M0 5 3) = 0 then (f_T_count_j1_v (0 : Int32)) else (f_T_count_j1_v (1 : Int32))) else (if (a1 = (3 : Int32)) then (if (M0 5 4) = 0 then (f_T_count_j2_v (0 : Int32)) else (f_T_count_j2_v (1 : Int32))) else (if (a1 = (4 : Int32)) then (if (M0 5 5) = 0 then (f_T_count_j3_v (0 : Int32)) else (f_T_count_j3_v (1 : Int32))) else (if (a1 = (5 : Int32)) then (if (M0 1 2) = 0 then (f_T_count_j4_v (0 : Int32)) else (f_T_count_j4_v (M0 1 5))) else (if (a1 = (6 : Int32)) then (if (M0 1 2) = 0 then (f_T_count_j5_v (0 : Int32)) else (f_T_count_j5_v (M0 1 6))) else (if (a1 = (7 : Int32)) then (if (M0 1 4) = 0 then (f_T_count_j6_v (0 : Int32)) else (f_T_count_j6_v (1 : Int32))) else (if (a1 = (8 : Int32)) then (M0 5 2) else 0)))))))))
def ok_T_count (M0 : Mem) (a1 : Int32) : Prop := ((((a1 = (0 : Int32))) → True) ∧ ((¬ (a1 = (0 : Int32))) → ((((a1 = (1 : Int32))) → True) ∧ ((¬ (a1 = (1 : Int32))) → ((((a1 = (2 : Int32))) → True) ∧ ((¬ (a1 = (2 : Int32))) → ((((a1 = (3 : Int32))) → True) ∧ ((¬ (a1 = (3 : Int32))) → ((((a1 = (4 : Int32))) → True) ∧ ((¬ (a1 = (4 : Int32))) → ((((a1 = (5 : Int32))) → True) ∧ ((¬ (a1 = (5 : Int32))) → ((((a1 = (6 : Int32))) → True) ∧ ((¬ (a1 = (6 : Int32))) → ((((a1 = (7 : Int32))) → True) ∧ ((¬ (a1 = (7 : Int32))) → ((((a1 = (8 : Int32))) → True) ∧ ((¬ (a1 = (8 : Int32))) → False))))))))))))))))))
set_option maxRecDepth 100000 in
set_option maxHeartbeats 4000000 in
theorem sp_T_count (M0 : Mem) (a1 : Int32) (Q : Int32 → Prop) (hok : ok_T_count M0 a1) (hQ : Q (f_T_count_v M0 a1)) : wp_T_count M0 a1 Q := by
  unfold wp_T_count
  unfold ok_T_count at hok
  unfold f_T_count_v at hQ
  refine ⟨fun hc => ?_, fun hc => ?_⟩
  · simp only [if_pos hc] at hQ
    exact hQ
  · simp only [if_neg hc] at hQ
    have hok := hok.2 hc
    refine ⟨fun hc => ?_, fun hc => ?_⟩
    · simp only [if_pos hc] at hQ
      exact hQ
    · simp only [if_neg hc] at hQ
      have hok := hok.2 hc
      refine ⟨fun hc => ?_, fun hc => ?_⟩
      · simp only [if_pos hc] at hQ
        refine ⟨fun hc => ?_, fun hc => ?_⟩
        · simp only [if_pos hc] at hQ
          exact sp_T_count_j1 _ _ hQ
        · simp only [if_neg hc] at hQ
          exact sp_T_count_j1 _ _ hQ
      · simp only [if_neg hc] at hQ
        have hok := hok.2 hc
        refine ⟨fun hc => ?_, fun hc => ?_⟩
        · simp only [if_pos hc] at hQ
          refine ⟨fun hc => ?_, fun hc => ?_⟩
          · simp only [if_pos hc] at hQ
            exact sp_T_count_j2 _ _ hQ
          · simp only [if_neg hc] at hQ
            exact sp_T_count_j2 _ _ hQ
        · simp only [if_neg hc] at hQ
          have hok := hok.2 hc
          refine ⟨fun hc => ?_, fun hc => ?_⟩
          · simp only [if_pos hc] at hQ
            refine ⟨fun hc => ?_, fun hc => ?_⟩
            · simp only [if_pos hc] at hQ
              exact sp_T_count_j3 _ _ hQ
            · simp only [if_neg hc] at hQ
              exact sp_T_count_j3 _ _ hQ
          · simp only [if_neg hc] at hQ
            have hok := hok.2 hc
            refine ⟨fun hc => ?_, fun hc => ?_⟩
            · simp only [if_pos hc] at hQ
              refine ⟨fun hc => ?_, fun hc => ?_⟩
              · simp only [if_pos hc] at hQ
                exact sp_T_count_j4 _ _ hQ
              · simp only [if_neg hc] at hQ
                exact sp_T_count_j4 _ _ hQ
            · simp only [if_neg hc] at hQ
              have hok := hok.2 hc
              refine ⟨fun hc => ?_, fun hc => ?_⟩
              · simp only [if_pos hc] at hQ
                refine ⟨fun hc => ?_, fun hc => ?_⟩
                · simp only [if_pos hc] at hQ
                  exact sp_T_count_j5 _ _ hQ
                · simp only [if_neg hc] at hQ
                  exact sp_T_count_j5 _ _ hQ
              · simp only [if_neg hc] at hQ
                have hok := hok.2 hc
                refine ⟨fun hc => ?_, fun hc => ?_⟩
                · simp only [if_pos hc] at hQ
                  refine ⟨fun hc => ?_, fun hc => ?_⟩
                  · simp only [if_pos hc] at hQ
                    exact sp_T_count_j6 _ _ hQ
                  · simp only [if_neg hc] at hQ
                    exact sp_T_count_j6 _ _ hQ
                · simp only [if_neg hc] at hQ
                  have hok := hok.2 hc
                  refine ⟨fun hc => ?_, fun hc => ?_⟩
                  · simp only [if_pos hc] at hQ
                    exact hQ
                  · simp only [if_neg hc] at hQ
                    have hok := hok.2 hc
                    exact False.elim hok
def f_T_speed_v (M0 : Mem) : UInt64 := (if (M0 5 0) = 0 then 0 else (FP.dmul (FP.ddiv (4697254411347427328 : UInt64) (FP.i2d (M0 5 0))) (FP.i2d (M0 2 1))))
def ok_T_speed (M0 : Mem) : Prop := (((¬ (M0 5 0) = 0) → vf_n64 (FP.ddiv (4697254411347427328 : UInt64) (FP.i2d (M0 5 0))) ∧ (vf_n64 (FP.dmul (FP.ddiv (4697254411347427328 : UInt64) (FP.i2d (M0 5 0))) (FP.i2d (M0 2 1))))) ∧ (((M0 5 0) = 0) → False))
set_option maxRecDepth 100000 in
set_option maxHeartbeats 4000000 in
theorem sp_T_speed (M0 : Mem) (Q : UInt64 → Prop) (hok : ok_T_speed M0) (hQ : Q (f_T_speed_v M0)) : wp_T_speed M0 Q := by
  unfold wp_T_speed
  unfold ok_T_speed at hok
  unfold f_T_speed_v at hQ
  refine ⟨fun hc => ?_, fun hc => ?_⟩
  · simp only [if_neg hc] at hQ
    have hok := hok.1 hc
    refine ⟨hok.1, ?_⟩
    have hok := hok.2
    refine ⟨hok, ?_⟩
    exact hQ
  · simp only [if_pos hc] at hQ
    have hok := hok.2 hc
    exact False.elim hok
