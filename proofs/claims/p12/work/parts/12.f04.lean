def f_R_jumps_m (M0 : Mem) (a1 : Int32) (a2 : Int32) : Mem := (if a1 = 0 then M0 else let M1 : Mem := mst M0 0 19 (a2 &&& (65535 : Int32)); let M2 : Mem := mst M1 0 20 ((M1 0 20) + (1 : Int32)); M2)
set_option maxRecDepth 100000 in
set_option maxHeartbeats 4000000 in
theorem sp_R_jumps (M0 : Mem) (a1 : Int32) (a2 : Int32) (Q : Mem → Prop) (hQ : Q (f_R_jumps_m M0 a1 a2)) : wp_R_jumps M0 a1 a2 Q := by
  unfold wp_R_jumps
  unfold f_R_jumps_m at hQ
  refine ⟨fun hc => ?_, fun hc => ?_⟩
  · simp only [if_neg hc] at hQ
    intro M1 h_; subst h_
    intro M2 h_; subst h_
    exact hQ
  · simp only [if_pos hc] at hQ
    exact hQ
def f_R_calls_m (M0 : Mem) (a1 : Int32) (a2 : Int32) : Mem := (if a1 = 0 then M0 else let M1 : Mem := f_R_push_m M0 (M0 0 19); let M2 : Mem := mst M1 0 19 a2; let M3 : Mem := mst M2 0 20 ((M2 0 20) + (1 : Int32)); M3)
def ok_R_calls (M0 : Mem) (a1 : Int32) (a2 : Int32) : Prop := (((¬ a1 = 0) → ok_R_push M0 (M0 0 19)) ∧ ((a1 = 0) → True))
set_option maxRecDepth 100000 in
set_option maxHeartbeats 4000000 in
theorem sp_R_calls (M0 : Mem) (a1 : Int32) (a2 : Int32) (Q : Mem → Prop) (hok : ok_R_calls M0 a1 a2) (hQ : Q (f_R_calls_m M0 a1 a2)) : wp_R_calls M0 a1 a2 Q := by
  unfold wp_R_calls
  unfold ok_R_calls at hok
  unfold f_R_calls_m at hQ
  refine ⟨fun hc => ?_, fun hc => ?_⟩
  · simp only [if_neg hc] at hQ
    have hok := hok.1 hc
    refine sp_R_push _ _ _ hok ?_
    intro M2 h_; subst h_
    intro M3 h_; subst h_
    exact hQ
  · simp only [if_pos hc] at hQ
    exact hQ
def f_R_accumulator_j1_m (M20 : Mem) : Mem := M20
set_option maxRecDepth 100000 in
set_option maxHeartbeats 4000000 in
theorem sp_R_accumulator_j1 (M20 : Mem) (Q : Mem → Prop) (hQ : Q (f_R_accumulator_j1_m M20)) : wp_R_accumulator_j1 M20 Q := by
  unfold wp_R_accumulator_j1
  unfold f_R_accumulator_j1_m at hQ
  exact hQ
def f_R_accumulator_j2_m (M0 : Mem) (x30 : Int32) : Mem := let M31 : Mem := f_R_flag_m M0 (16 : Int32) x30; let M32 : Mem := f_R_flag_m M31 (64 : Int32) (0 : Int32); let M33 : Mem := f_R_flag_m M32 (32 : Int32) (0 : Int32); (f_R_accumulator_j1_m M33)
set_option maxRecDepth 100000 in
set_option maxHeartbeats 4000000 in
theorem sp_R_accumulator_j2 (M0 : Mem) (x30 : Int32) (Q : Mem → Prop) (hQ : Q (f_R_accumulator_j2_m M0 x30)) : wp_R_accumulator_j2 M0 x30 Q := by
  unfold wp_R_accumulator_j2
  unfold f_R_accumulator_j2_m at hQ
  refine sp_R_flag _ _ _ _ ?_
  refine sp_R_flag _ _ _ _ ?_
  refine sp_R_flag _ _ _ _ ?_
  exact sp_R_accumulator_j1 _ _ hQ
def f_R_accumulator_j3_m (M0 : Mem) : Mem := (f_R_accumulator_j2_m M0 (1 : Int32))
set_option maxRecDepth 100000 in
set_option maxHeartbeats 4000000 in
theorem sp_R_accumulator_j3 (M0 : Mem) (Q : Mem → Prop) (hQ : Q (f_R_accumulator_j3_m M0)) : wp_R_accumulator_j3 M0 Q := by
  unfold wp_R_accumulator_j3
  unfold f_R_accumulator_j3_m at hQ
  exact sp_R_accumulator_j2 _ _ _ hQ
def f_R_accumulator_m (M0 : Mem) (a1 : Int32) : Mem := (if (a1 = (4 : Int32)) then let M21 : Mem := f_R_adjusts_m M0; (f_R_accumulator_j1_m M21) else (if (a1 = (5 : Int32)) then let M22 : Mem := mst M0 8 7 ((M0 8 7) ^^^ (255 : Int32)); let M23 : Mem := f_R_flag_m M22 (64 : Int32) (1 : Int32); let M24 : Mem := f_R_flag_m M23 (32 : Int32) (1 : Int32); (f_R_accumulator_j1_m M24) else (if (a1 = (6 : Int32) ∨ a1 = (7 : Int32)) then (if a1 = (6 : Int32) then (f_R_accumulator_j3_m M0) else let x34 : Int32 := f_R_is_v M0 (16 : Int32); (if x34 = 0 then (f_R_accumulator_j3_m M0) else (f_R_accumulator_j2_m M0 (0 : Int32)))) else let x35 : Int32 := f_R_turned_v M0 a1 (M0 8 7); let M36 : Mem := f_R_turned_m M0 a1 (M0 8 7); let M37 : Mem := mst M36 8 7 x35; let M38 : Mem := f_R_flag_m M37 (128 : Int32) (0 : Int32); (f_R_accumulator_j1_m M38))))
def ok_R_accumulator (M0 : Mem) (a1 : Int32) : Prop := ((((a1 = (4 : Int32))) → ok_R_adjusts M0) ∧ ((¬ (a1 = (4 : Int32))) → ((((a1 = (5 : Int32))) → True) ∧ ((¬ (a1 = (5 : Int32))) → ((((a1 = (6 : Int32) ∨ a1 = (7 : Int32))) → (((a1 = (6 : Int32)) → True) ∧ ((¬ a1 = (6 : Int32)) → ok_R_is M0 (16 : Int32)))) ∧ ((¬ (a1 = (6 : Int32) ∨ a1 = (7 : Int32))) → ok_R_turned M0 a1 (M0 8 7)))))))
set_option maxRecDepth 100000 in
set_option maxHeartbeats 4000000 in
theorem sp_R_accumulator (M0 : Mem) (a1 : Int32) (Q : Mem → Prop) (hok : ok_R_accumulator M0 a1) (hQ : Q (f_R_accumulator_m M0 a1)) : wp_R_accumulator M0 a1 Q := by
  unfold wp_R_accumulator
  unfold ok_R_accumulator at hok
  unfold f_R_accumulator_m at hQ
  refine ⟨fun hc => ?_, fun hc => ?_⟩
  · simp only [if_pos hc] at hQ
    have hok := hok.1 hc
    refine sp_R_adjusts _ _ hok ?_
    exact sp_R_accumulator_j1 _ _ hQ
  · simp only [if_neg hc] at hQ
    have hok := hok.2 hc
    refine ⟨fun hc => ?_, fun hc => ?_⟩
    · simp only [if_pos hc] at hQ
      intro M22 h_; subst h_
      refine sp_R_flag _ _ _ _ ?_
      refine sp_R_flag _ _ _ _ ?_
      exact sp_R_accumulator_j1 _ _ hQ
    · simp only [if_neg hc] at hQ
      have hok := hok.2 hc
      refine ⟨fun hc => ?_, fun hc => ?_⟩
      · simp only [if_pos hc] at hQ
        have hok := hok.1 hc
        refine ⟨fun hc => ?_, fun hc => ?_⟩
        · simp only [if_pos hc] at hQ
          exact sp_R_accumulator_j3 _ _ hQ
        · simp only [if_neg hc] at hQ
          have hok := hok.2 hc
          refine sp_R_is _ _ _ hok ?_
          refine ⟨fun hc => ?_, fun hc => ?_⟩
          · simp only [if_neg hc] at hQ
            exact sp_R_accumulator_j2 _ _ _ hQ
          · simp only [if_pos hc] at hQ
            exact sp_R_accumulator_j3 _ _ hQ
      · simp only [if_neg hc] at hQ
        have hok := hok.2 hc
        refine sp_R_turned _ _ _ _ hok ?_
        intro M37 h_; subst h_
        refine sp_R_flag _ _ _ _ ?_
        exact sp_R_accumulator_j1 _ _ hQ
def f_R_first_j1_m (M214 : Mem) : Mem := M214
set_option maxRecDepth 100000 in
set_option maxHeartbeats 4000000 in
theorem sp_R_first_j1 (M214 : Mem) (Q : Mem → Prop) (hQ : Q (f_R_first_j1_m M214)) : wp_R_first_j1 M214 Q := by
  unfold wp_R_first_j1
  unfold f_R_first_j1_m at hQ
  exact hQ
def f_R_first_j2_m (M216 : Mem) (x217 : Int32) (x221 : Int32) : Mem := let M222 : Mem := f_R_jumps_m M216 x221 ((M216 0 19) + x217); (f_R_first_j1_m M222)
set_option maxRecDepth 100000 in
set_option maxHeartbeats 4000000 in
theorem sp_R_first_j2 (M216 : Mem) (x217 : Int32) (x221 : Int32) (Q : Mem → Prop) (hQ : Q (f_R_first_j2_m M216 x217 x221)) : wp_R_first_j2 M216 x217 x221 Q := by
  unfold wp_R_first_j2
  unfold f_R_first_j2_m at hQ
  refine sp_R_jumps _ _ _ _ ?_
  exact sp_R_first_j1 _ _ hQ
def f_R_first_j3_m (M216 : Mem) (x217 : Int32) : Mem := (f_R_first_j2_m M216 x217 (1 : Int32))
set_option maxRecDepth 100000 in
set_option maxHeartbeats 4000000 in
theorem sp_R_first_j3 (M216 : Mem) (x217 : Int32) (Q : Mem → Prop) (hQ : Q (f_R_first_j3_m M216 x217)) : wp_R_first_j3 M216 x217 Q := by
  unfold wp_R_first_j3
  unfold f_R_first_j3_m at hQ
  exact sp_R_first_j2 _ _ _ _ hQ
def f_R_first_j5_m (x231 : Int32) (x232 : Int32) (M245 : Mem) (x250 : Int32) : Mem := let M251 : Mem := f_R_flag_m M245 (16 : Int32) x250; let M252 : Mem := f_R_setPair_m M251 (2 : Int32) (x231 + x232); let M253 : Mem := mst M252 0 20 ((M252 0 20) + (1 : Int32)); (f_R_first_j1_m M253)
def ok_R_first_j5 (x231 : Int32) (x232 : Int32) (M245 : Mem) (x250 : Int32) : Prop := ∀ M251 : Mem, M251 = f_R_flag_m M245 (16 : Int32) x250 → ok_R_setPair M251 (2 : Int32) (x231 + x232)
set_option maxRecDepth 100000 in
set_option maxHeartbeats 4000000 in
theorem sp_R_first_j5 (x231 : Int32) (x232 : Int32) (M245 : Mem) (x250 : Int32) (Q : Mem → Prop) (hok : ok_R_first_j5 x231 x232 M245 x250) (hQ : Q (f_R_first_j5_m x231 x232 M245 x250)) : wp_R_first_j5 x231 x232 M245 x250 Q := by
  unfold wp_R_first_j5
  unfold ok_R_first_j5 at hok
  unfold f_R_first_j5_m at hQ
  refine sp_R_flag _ _ _ _ ?_
  have hok := hok _ rfl
  refine sp_R_setPair _ _ _ _ hok ?_
  intro M253 h_; subst h_
  exact sp_R_first_j1 _ _ hQ
def f_R_first_j4_m (x231 : Int32) (x232 : Int32) (M233 : Mem) (x244 : Int32) : Mem := let M245 : Mem := f_R_flag_m M233 (32 : Int32) x244; (if (x231 + x232) ≤ (65535 : Int32) then (f_R_first_j5_m x231 x232 M245 (0 : Int32)) else (f_R_first_j5_m x231 x232 M245 (1 : Int32)))
def ok_R_first_j4 (x231 : Int32) (x232 : Int32) (M233 : Mem) (x244 : Int32) : Prop := ∀ M245 : Mem, M245 = f_R_flag_m M233 (32 : Int32) x244 → ((((x231 + x232) ≤ (65535 : Int32)) → ok_R_first_j5 x231 x232 M245 (0 : Int32)) ∧ ((¬ (x231 + x232) ≤ (65535 : Int32)) → ok_R_first_j5 x231 x232 M245 (1 : Int32)))
set_option maxRecDepth 100000 in
set_option maxHeartbeats 4000000 in
theorem sp_R_first_j4 (x231 : Int32) (x232 : Int32) (M233 : Mem) (x244 : Int32) (Q : Mem → Prop) (hok : ok_R_first_j4 x231 x232 M233 x244) (hQ : Q (f_R_first_j4_m x231 x232 M233 x244)) : wp_R_first_j4 x231 x232 M233 x244 Q := by
  unfold wp_R_first_j4
  unfold ok_R_first_j4 at hok
  unfold f_R_first_j4_m at hQ
  refine sp_R_flag _ _ _ _ ?_
  have hok := hok _ rfl
  refine ⟨fun hc => ?_, fun hc => ?_⟩
  · simp only [if_pos hc] at hQ
    have hok := hok.1 hc
    exact sp_R_first_j5 _ _ _ _ _ hok hQ
  · simp only [if_neg hc] at hQ
    have hok := hok.2 hc
    exact sp_R_first_j5 _ _ _ _ _ hok hQ
def f_R_first_j8_m (M288 : Mem) (x291 : Int32) : Mem := let M292 : Mem := f_R_setPair_m M288 (2 : Int32) x291; (f_R_first_j1_m M292)
def ok_R_first_j8 (M288 : Mem) (x291 : Int32) : Prop := ok_R_setPair M288 (2 : Int32) x291
set_option maxRecDepth 100000 in
set_option maxHeartbeats 4000000 in
theorem sp_R_first_j8 (M288 : Mem) (x291 : Int32) (Q : Mem → Prop) (hok : ok_R_first_j8 M288 x291) (hQ : Q (f_R_first_j8_m M288 x291)) : wp_R_first_j8 M288 x291 Q := by
  unfold wp_R_first_j8
  unfold ok_R_first_j8 at hok
  unfold f_R_first_j8_m at hQ
  refine sp_R_setPair _ _ _ _ hok ?_
  exact sp_R_first_j1 _ _ hQ
def f_R_first_j7_m (x2 : Int32) (x278 : Int32) (M288 : Mem) : Mem := (if x2 ≤ (1 : Int32) then (f_R_first_j1_m M288) else (if x2 = (2 : Int32) then (f_R_first_j8_m M288 (x278 + (1 : Int32))) else (f_R_first_j8_m M288 (x278 - (1 : Int32)))))
def ok_R_first_j7 (x2 : Int32) (x278 : Int32) (M288 : Mem) : Prop := (((x2 ≤ (1 : Int32)) → True) ∧ ((¬ x2 ≤ (1 : Int32)) → (((¬ x2 = (2 : Int32)) → ok_R_first_j8 M288 (x278 - (1 : Int32))) ∧ ((x2 = (2 : Int32)) → ok_R_first_j8 M288 (x278 + (1 : Int32))))))
set_option maxRecDepth 100000 in
set_option maxHeartbeats 4000000 in
theorem sp_R_first_j7 (x2 : Int32) (x278 : Int32) (M288 : Mem) (Q : Mem → Prop) (hok : ok_R_first_j7 x2 x278 M288) (hQ : Q (f_R_first_j7_m x2 x278 M288)) : wp_R_first_j7 x2 x278 M288 Q := by
  unfold wp_R_first_j7
  unfold ok_R_first_j7 at hok
  unfold f_R_first_j7_m at hQ
  refine ⟨fun hc => ?_, fun hc => ?_⟩
  · simp only [if_pos hc] at hQ
    exact sp_R_first_j1 _ _ hQ
  · simp only [if_neg hc] at hQ
    have hok := hok.2 hc
    refine ⟨fun hc => ?_, fun hc => ?_⟩
    · simp only [if_neg hc] at hQ
      have hok := hok.1 hc
      exact sp_R_first_j8 _ _ _ hok hQ
    · simp only [if_pos hc] at hQ
      have hok := hok.2 hc
      exact sp_R_first_j8 _ _ _ hok hQ
def f_R_first_j6_m (M0 : Mem) (x1 : Int32) (x2 : Int32) (x278 : Int32) : Mem := (if x1 = 0 then let M296 : Mem := f_R_writes_m M0 x278 (M0 8 7); (f_R_first_j7_m x2 x278 M296) else let x293 : Int32 := f_R_reads_v M0 x278; let M294 : Mem := f_R_reads_m M0 x278; let M295 : Mem := mst M294 8 7 x293; (f_R_first_j7_m x2 x278 M295))
def ok_R_first_j6 (M0 : Mem) (x1 : Int32) (x2 : Int32) (x278 : Int32) : Prop := (((¬ x1 = 0) → ok_R_reads M0 x278 ∧ (∀ x293 : Int32, x293 = f_R_reads_v M0 x278 → ∀ M294 : Mem, M294 = f_R_reads_m M0 x278 → ∀ M295 : Mem, M295 = mst M294 8 7 x293 → ok_R_first_j7 x2 x278 M295)) ∧ ((x1 = 0) → ok_R_writes M0 x278 (M0 8 7) ∧ (∀ M296 : Mem, M296 = f_R_writes_m M0 x278 (M0 8 7) → ok_R_first_j7 x2 x278 M296)))
set_option maxRecDepth 100000 in
set_option maxHeartbeats 4000000 in
theorem sp_R_first_j6 (M0 : Mem) (x1 : Int32) (x2 : Int32) (x278 : Int32) (Q : Mem → Prop) (hok : ok_R_first_j6 M0 x1 x2 x278) (hQ : Q (f_R_first_j6_m M0 x1 x2 x278)) : wp_R_first_j6 M0 x1 x2 x278 Q := by
  unfold wp_R_first_j6
  unfold ok_R_first_j6 at hok
  unfold f_R_first_j6_m at hQ
  refine ⟨fun hc => ?_, fun hc => ?_⟩
  · simp only [if_neg hc] at hQ
    have hok := hok.1 hc
    refine sp_R_reads _ _ _ hok.1 ?_
    have hok := hok.2 _ rfl _ rfl
    intro M295 h_; subst h_
    have hok := hok _ rfl
    exact sp_R_first_j7 _ _ _ _ hok hQ
  · simp only [if_pos hc] at hQ
    have hok := hok.2 hc
    refine sp_R_writes _ _ _ _ hok.1 ?_
    have hok := hok.2 _ rfl
    exact sp_R_first_j7 _ _ _ _ hok hQ
def f_R_first_j9_m (M0 : Mem) (x2 : Int32) (x304 : Int32) : Mem := let M305 : Mem := f_R_setPair_m M0 x2 x304; let M306 : Mem := mst M305 0 20 ((M305 0 20) + (1 : Int32)); (f_R_first_j1_m M306)
def ok_R_first_j9 (M0 : Mem) (x2 : Int32) (x304 : Int32) : Prop := ok_R_setPair M0 x2 x304
set_option maxRecDepth 100000 in
set_option maxHeartbeats 4000000 in
theorem sp_R_first_j9 (M0 : Mem) (x2 : Int32) (x304 : Int32) (Q : Mem → Prop) (hok : ok_R_first_j9 M0 x2 x304) (hQ : Q (f_R_first_j9_m M0 x2 x304)) : wp_R_first_j9 M0 x2 x304 Q := by
  unfold wp_R_first_j9
  unfold ok_R_first_j9 at hok
  unfold f_R_first_j9_m at hQ
  refine sp_R_setPair _ _ _ _ hok ?_
  intro M306 h_; subst h_
  exact sp_R_first_j1 _ _ hQ
def f_R_first_j14_m (M410 : Mem) (x419 : Int32) : Mem := let M420 : Mem := f_R_flag_m M410 (32 : Int32) x419; (f_R_first_j1_m M420)
set_option maxRecDepth 100000 in
set_option maxHeartbeats 4000000 in
theorem sp_R_first_j14 (M410 : Mem) (x419 : Int32) (Q : Mem → Prop) (hQ : Q (f_R_first_j14_m M410 x419)) : wp_R_first_j14 M410 x419 Q := by
  unfold wp_R_first_j14
  unfold f_R_first_j14_m at hQ
  refine sp_R_flag _ _ _ _ ?_
  exact sp_R_first_j1 _ _ hQ
def f_R_first_j13_m (x309 : Int32) (M410 : Mem) (x416 : Int32) : Mem := (if (x309 &&& (15 : Int32)) = x416 then (f_R_first_j14_m M410 (1 : Int32)) else (f_R_first_j14_m M410 (0 : Int32)))
set_option maxRecDepth 100000 in
set_option maxHeartbeats 4000000 in
theorem sp_R_first_j13 (x309 : Int32) (M410 : Mem) (x416 : Int32) (Q : Mem → Prop) (hQ : Q (f_R_first_j13_m x309 M410 x416)) : wp_R_first_j13 x309 M410 x416 Q := by
  unfold wp_R_first_j13
  unfold f_R_first_j13_m at hQ
  refine ⟨fun hc => ?_, fun hc => ?_⟩
  · simp only [if_neg hc] at hQ
    exact sp_R_first_j14 _ _ _ hQ
  · simp only [if_pos hc] at hQ
    exact sp_R_first_j14 _ _ _ hQ
def f_R_first_j12_m (a2 : Int32) (x309 : Int32) (M396 : Mem) (x409 : Int32) : Mem := let M410 : Mem := f_R_flag_m M396 (64 : Int32) x409; (if a2 = (4 : Int32) then (f_R_first_j13_m x309 M410 (15 : Int32)) else (f_R_first_j13_m x309 M410 (0 : Int32)))
set_option maxRecDepth 100000 in
set_option maxHeartbeats 4000000 in
theorem sp_R_first_j12 (a2 : Int32) (x309 : Int32) (M396 : Mem) (x409 : Int32) (Q : Mem → Prop) (hQ : Q (f_R_first_j12_m a2 x309 M396 x409)) : wp_R_first_j12 a2 x309 M396 x409 Q := by
  unfold wp_R_first_j12
  unfold f_R_first_j12_m at hQ
  refine sp_R_flag _ _ _ _ ?_
  refine ⟨fun hc => ?_, fun hc => ?_⟩
  · simp only [if_neg hc] at hQ
    exact sp_R_first_j13 _ _ _ _ hQ
  · simp only [if_pos hc] at hQ
    exact sp_R_first_j13 _ _ _ _ hQ
def f_R_first_j11_m (a2 : Int32) (x309 : Int32) (M368 : Mem) (x395 : Int32) : Mem := let M396 : Mem := f_R_flag_m M368 (128 : Int32) x395; (if a2 = (5 : Int32) then (f_R_first_j12_m a2 x309 M396 (1 : Int32)) else (f_R_first_j12_m a2 x309 M396 (0 : Int32)))
set_option maxRecDepth 100000 in
set_option maxHeartbeats 4000000 in
theorem sp_R_first_j11 (a2 : Int32) (x309 : Int32) (M368 : Mem) (x395 : Int32) (Q : Mem → Prop) (hQ : Q (f_R_first_j11_m a2 x309 M368 x395)) : wp_R_first_j11 a2 x309 M368 x395 Q := by
  unfold wp_R_first_j11
  unfold f_R_first_j11_m at hQ
  refine sp_R_flag _ _ _ _ ?_
  refine ⟨fun hc => ?_, fun hc => ?_⟩
  · simp only [if_neg hc] at hQ
    exact sp_R_first_j12 _ _ _ _ _ hQ
  · simp only [if_pos hc] at hQ
    exact sp_R_first_j12 _ _ _ _ _ hQ
def f_R_first_j10_m (a1 : Int32) (a2 : Int32) (x309 : Int32) (M310 : Mem) (x366 : Int32) : Mem := let x367 : Int32 := (x366 &&& (255 : Int32)); let M368 : Mem := f_R_setOperand_m M310 a1 x367; (if x367 = 0 then (f_R_first_j11_m a2 x309 M368 (1 : Int32)) else (f_R_first_j11_m a2 x309 M368 (0 : Int32)))
def ok_R_first_j10 (a1 : Int32) (a2 : Int32) (x309 : Int32) (M310 : Mem) (x366 : Int32) : Prop := ∀ x367 : Int32, x367 = (x366 &&& (255 : Int32)) → ok_R_setOperand M310 a1 x367
set_option maxRecDepth 100000 in
set_option maxHeartbeats 4000000 in
theorem sp_R_first_j10 (a1 : Int32) (a2 : Int32) (x309 : Int32) (M310 : Mem) (x366 : Int32) (Q : Mem → Prop) (hok : ok_R_first_j10 a1 a2 x309 M310 x366) (hQ : Q (f_R_first_j10_m a1 a2 x309 M310 x366)) : wp_R_first_j10 a1 a2 x309 M310 x366 Q := by
  unfold wp_R_first_j10
  unfold ok_R_first_j10 at hok
  unfold f_R_first_j10_m at hQ
  intro x367 h_; subst h_
  have hok := hok _ rfl
  refine sp_R_setOperand _ _ _ _ hok ?_
  refine ⟨fun hc => ?_, fun hc => ?_⟩
  · simp only [if_neg hc] at hQ
    exact sp_R_first_j11 _ _ _ _ _ hQ
  · simp only [if_pos hc] at hQ
    exact sp_R_first_j11 _ _ _ _ _ hQ
def f_R_first_m (M0 : Mem) (a1 : Int32) (a2 : Int32) : Mem := let x1 : Int32 := (a1 &&& (1 : Int32)); let x2 : Int32 := (a1 >>> ((1 : Int32) &&& (31 : Int32))); (if (a2 = (0 : Int32)) then (if a1 = (1 : Int32) then let x227 : Int32 := f_R_nextWord_v M0; let M228 : Mem := f_R_nextWord_m M0; let M229 : Mem := f_R_writes_m M228 x227 (M228 0 18); let M230 : Mem := f_R_writes_m M229 (x227 + (1 : Int32)) ((M229 0 18) >>> ((8 : Int32) &&& (31 : Int32))); (f_R_first_j1_m M230) else (if a1 = (2 : Int32) then let M225 : Mem := f_R_next_m M0; let M226 : Mem := mst M225 0 27 (0 : Int32); (f_R_first_j1_m M226) else (if a1 ≤ (2 : Int32) then (f_R_first_j1_m M0) else let x215 : Int32 := f_R_next_v M0; let M216 : Mem := f_R_next_m M0; let x217 : Int32 := f_R_signed_v M216 x215; (if a1 = (3 : Int32) then (f_R_first_j3_m M216 x217) else let x223 : Int32 := f_R_holds_v M216 (a1 - (4 : Int32)); (if x223 = 0 then (f_R_first_j2_m M216 x217 (0 : Int32)) else (f_R_first_j3_m M216 x217)))))) else (if (a2 = (1 : Int32)) then (if x1 = 0 then let x254 : Int32 := f_R_nextWord_v M0; let M255 : Mem := f_R_nextWord_m M0; let M256 : Mem := f_R_setPair_m M255 x2 x254; (f_R_first_j1_m M256) else let x231 : Int32 := f_R_pair_v M0 (2 : Int32); let x232 : Int32 := f_R_pair_v M0 x2; let M233 : Mem := f_R_flag_m M0 (64 : Int32) (0 : Int32); (if ((x231 &&& (4095 : Int32)) + (x232 &&& (4095 : Int32))) ≤ (4095 : Int32) then (f_R_first_j4_m x231 x232 M233 (0 : Int32)) else (f_R_first_j4_m x231 x232 M233 (1 : Int32)))) else (if (a2 = (2 : Int32)) then (if (2 : Int32) ≤ x2 then let x297 : Int32 := f_R_pair_v M0 (2 : Int32); (f_R_first_j6_m M0 x1 x2 x297) else let x298 : Int32 := f_R_pair_v M0 x2; (f_R_first_j6_m M0 x1 x2 x298)) else (if (a2 = (3 : Int32)) then (if x1 = 0 then let x308 : Int32 := f_R_pair_v M0 x2; (f_R_first_j9_m M0 x2 (x308 + (1 : Int32))) else let x307 : Int32 := f_R_pair_v M0 x2; (f_R_first_j9_m M0 x2 (x307 - (1 : Int32)))) else (if (a2 = (4 : Int32) ∨ a2 = (5 : Int32)) then let x309 : Int32 := f_R_operand_v M0 a1; let M310 : Mem := f_R_operand_m M0 a1; (if a2 = (4 : Int32) then (f_R_first_j10_m a1 a2 x309 M310 (x309 + (1 : Int32))) else (f_R_first_j10_m a1 a2 x309 M310 (x309 - (1 : Int32)))) else (if (a2 = (6 : Int32)) then let x421 : Int32 := f_R_next_v M0; let M422 : Mem := f_R_next_m M0; let M423 : Mem := f_R_setOperand_m M422 a1 x421; (f_R_first_j1_m M423) else let M424 : Mem := f_R_accumulator_m M0 a1; (f_R_first_j1_m M424)))))))
def ok_R_first (M0 : Mem) (a1 : Int32) (a2 : Int32) : Prop := ∀ x1 : Int32, x1 = (a1 &&& (1 : Int32)) → ∀ x2 : Int32, x2 = (a1 >>> ((1 : Int32) &&& (31 : Int32))) → ((((a2 = (0 : Int32))) → (((¬ a1 = (1 : Int32)) → (((¬ a1 = (2 : Int32)) → (((a1 ≤ (2 : Int32)) → True) ∧ ((¬ a1 ≤ (2 : Int32)) → ok_R_next M0 ∧ (∀ x215 : Int32, x215 = f_R_next_v M0 → ∀ M216 : Mem, M216 = f_R_next_m M0 → ∀ x217 : Int32, x217 = f_R_signed_v M216 x215 → (((a1 = (3 : Int32)) → True) ∧ ((¬ a1 = (3 : Int32)) → ok_R_holds M216 (a1 - (4 : Int32)))))))) ∧ ((a1 = (2 : Int32)) → ok_R_next M0))) ∧ ((a1 = (1 : Int32)) → ok_R_nextWord M0 ∧ (∀ x227 : Int32, x227 = f_R_nextWord_v M0 → ∀ M228 : Mem, M228 = f_R_nextWord_m M0 → ok_R_writes M228 x227 (M228 0 18) ∧ (∀ M229 : Mem, M229 = f_R_writes_m M228 x227 (M228 0 18) → ok_R_writes M229 (x227 + (1 : Int32)) ((M229 0 18) >>> ((8 : Int32) &&& (31 : Int32)))))))) ∧ ((¬ (a2 = (0 : Int32))) → ((((a2 = (1 : Int32))) → (((¬ x1 = 0) → ok_R_pair M0 (2 : Int32) ∧ (∀ x231 : Int32, x231 = f_R_pair_v M0 (2 : Int32) → ok_R_pair M0 x2 ∧ (∀ x232 : Int32, x232 = f_R_pair_v M0 x2 → ∀ M233 : Mem, M233 = f_R_flag_m M0 (64 : Int32) (0 : Int32) → (((((x231 &&& (4095 : Int32)) + (x232 &&& (4095 : Int32))) ≤ (4095 : Int32)) → ok_R_first_j4 x231 x232 M233 (0 : Int32)) ∧ ((¬ ((x231 &&& (4095 : Int32)) + (x232 &&& (4095 : Int32))) ≤ (4095 : Int32)) → ok_R_first_j4 x231 x232 M233 (1 : Int32)))))) ∧ ((x1 = 0) → ok_R_nextWord M0 ∧ (∀ x254 : Int32, x254 = f_R_nextWord_v M0 → ∀ M255 : Mem, M255 = f_R_nextWord_m M0 → ok_R_setPair M255 x2 x254)))) ∧ ((¬ (a2 = (1 : Int32))) → ((((a2 = (2 : Int32))) → ((((2 : Int32) ≤ x2) → ok_R_pair M0 (2 : Int32) ∧ (∀ x297 : Int32, x297 = f_R_pair_v M0 (2 : Int32) → ok_R_first_j6 M0 x1 x2 x297)) ∧ ((¬ (2 : Int32) ≤ x2) → ok_R_pair M0 x2 ∧ (∀ x298 : Int32, x298 = f_R_pair_v M0 x2 → ok_R_first_j6 M0 x1 x2 x298)))) ∧ ((¬ (a2 = (2 : Int32))) → ((((a2 = (3 : Int32))) → (((¬ x1 = 0) → ok_R_pair M0 x2 ∧ (∀ x307 : Int32, x307 = f_R_pair_v M0 x2 → ok_R_first_j9 M0 x2 (x307 - (1 : Int32)))) ∧ ((x1 = 0) → ok_R_pair M0 x2 ∧ (∀ x308 : Int32, x308 = f_R_pair_v M0 x2 → ok_R_first_j9 M0 x2 (x308 + (1 : Int32)))))) ∧ ((¬ (a2 = (3 : Int32))) → ((((a2 = (4 : Int32) ∨ a2 = (5 : Int32))) → ok_R_operand M0 a1 ∧ (∀ x309 : Int32, x309 = f_R_operand_v M0 a1 → ∀ M310 : Mem, M310 = f_R_operand_m M0 a1 → (((¬ a2 = (4 : Int32)) → ok_R_first_j10 a1 a2 x309 M310 (x309 - (1 : Int32))) ∧ ((a2 = (4 : Int32)) → ok_R_first_j10 a1 a2 x309 M310 (x309 + (1 : Int32)))))) ∧ ((¬ (a2 = (4 : Int32) ∨ a2 = (5 : Int32))) → ((((a2 = (6 : Int32))) → ok_R_next M0 ∧ (∀ x421 : Int32, x421 = f_R_next_v M0 → ∀ M422 : Mem, M422 = f_R_next_m M0 → ok_R_setOperand M422 a1 x421)) ∧ ((¬ (a2 = (6 : Int32))) → ok_R_accumulator M0 a1))))))))))))
set_option maxRecDepth 100000 in
set_option maxHeartbeats 4000000 in
theorem sp_R_first (M0 : Mem) (a1 : Int32) (a2 : Int32) (Q : Mem → Prop) (hok : ok_R_first M0 a1 a2) (hQ : Q (f_R_first_m M0 a1 a2)) : wp_R_first M0 a1 a2 Q := by
  unfold wp_R_first
  unfold ok_R_first at hok
  unfold f_R_first_m at hQ
  intro x1 h_; subst h_
  have hok := hok _ rfl
  intro x2 h_; subst h_
  have hok := hok _ rfl
  refine ⟨fun hc => ?_, fun hc => ?_⟩
  · simp only [if_pos hc] at hQ
    have hok := hok.1 hc
    refine ⟨fun hc => ?_, fun hc => ?_⟩
    · simp only [if_neg hc] at hQ
      have hok := hok.1 hc
      refine ⟨fun hc => ?_, fun hc => ?_⟩
      · simp only [if_neg hc] at hQ
        have hok := hok.1 hc
        refine ⟨fun hc => ?_, fun hc => ?_⟩
        · simp only [if_pos hc] at hQ
          exact sp_R_first_j1 _ _ hQ
        · simp only [if_neg hc] at hQ
          have hok := hok.2 hc
          refine sp_R_next _ _ hok.1 ?_
          have hok := hok.2 _ rfl _ rfl
          refine sp_R_signed _ _ _ ?_
          have hok := hok _ rfl
          refine ⟨fun hc => ?_, fun hc => ?_⟩
          · simp only [if_pos hc] at hQ
            exact sp_R_first_j3 _ _ _ hQ
          · simp only [if_neg hc] at hQ
            have hok := hok.2 hc
            refine sp_R_holds _ _ _ hok ?_
            refine ⟨fun hc => ?_, fun hc => ?_⟩
            · simp only [if_pos hc] at hQ
              exact sp_R_first_j2 _ _ _ _ hQ
            · simp only [if_neg hc] at hQ
              exact sp_R_first_j3 _ _ _ hQ
      · simp only [if_pos hc] at hQ
        have hok := hok.2 hc
        refine sp_R_next _ _ hok ?_
        intro M226 h_; subst h_
        exact sp_R_first_j1 _ _ hQ
    · simp only [if_pos hc] at hQ
      have hok := hok.2 hc
      refine sp_R_nextWord _ _ hok.1 ?_
      have hok := hok.2 _ rfl _ rfl
      refine sp_R_writes _ _ _ _ hok.1 ?_
      have hok := hok.2 _ rfl
      refine sp_R_writes _ _ _ _ hok ?_
      exact sp_R_first_j1 _ _ hQ
  · simp only [if_neg hc] at hQ
    have hok := hok.2 hc
    refine ⟨fun hc => ?_, fun hc => ?_⟩
    · simp only [if_pos hc] at hQ
      have hok := hok.1 hc
      refine ⟨fun hc => ?_, fun hc => ?_⟩
      · simp only [if_neg hc] at hQ
        have hok := hok.1 hc
        refine sp_R_pair _ _ _ hok.1 ?_
        have hok := hok.2 _ rfl
        refine sp_R_pair _ _ _ hok.1 ?_
        have hok := hok.2 _ rfl
        refine sp_R_flag _ _ _ _ ?_
        have hok := hok _ rfl
        refine ⟨fun hc => ?_, fun hc => ?_⟩
        · simp only [if_pos hc] at hQ
          have hok := hok.1 hc
          exact sp_R_first_j4 _ _ _ _ _ hok hQ
        · simp only [if_neg hc] at hQ
          have hok := hok.2 hc
          exact sp_R_first_j4 _ _ _ _ _ hok hQ
      · simp only [if_pos hc] at hQ
        have hok := hok.2 hc
        refine sp_R_nextWord _ _ hok.1 ?_
        have hok := hok.2 _ rfl _ rfl
        refine sp_R_setPair _ _ _ _ hok ?_
        exact sp_R_first_j1 _ _ hQ
    · simp only [if_neg hc] at hQ
      have hok := hok.2 hc
      refine ⟨fun hc => ?_, fun hc => ?_⟩
      · simp only [if_pos hc] at hQ
        have hok := hok.1 hc
        refine ⟨fun hc => ?_, fun hc => ?_⟩
        · simp only [if_pos hc] at hQ
          have hok := hok.1 hc
          refine sp_R_pair _ _ _ hok.1 ?_
          have hok := hok.2 _ rfl
          exact sp_R_first_j6 _ _ _ _ _ hok hQ
        · simp only [if_neg hc] at hQ
          have hok := hok.2 hc
          refine sp_R_pair _ _ _ hok.1 ?_
          have hok := hok.2 _ rfl
          exact sp_R_first_j6 _ _ _ _ _ hok hQ
      · simp only [if_neg hc] at hQ
        have hok := hok.2 hc
        refine ⟨fun hc => ?_, fun hc => ?_⟩
        · simp only [if_pos hc] at hQ
          have hok := hok.1 hc
          refine ⟨fun hc => ?_, fun hc => ?_⟩
          · simp only [if_neg hc] at hQ
            have hok := hok.1 hc
            refine sp_R_pair _ _ _ hok.1 ?_
            have hok := hok.2 _ rfl
            exact sp_R_first_j9 _ _ _ _ hok hQ
          · simp only [if_pos hc] at hQ
            have hok := hok.2 hc
            refine sp_R_pair _ _ _ hok.1 ?_
            have hok := hok.2 _ rfl
            exact sp_R_first_j9 _ _ _ _ hok hQ
        · simp only [if_neg hc] at hQ
          have hok := hok.2 hc
          refine ⟨fun hc => ?_, fun hc => ?_⟩
          · simp only [if_pos hc] at hQ
            have hok := hok.1 hc
            refine sp_R_operand _ _ _ hok.1 ?_
            have hok := hok.2 _ rfl _ rfl
            refine ⟨fun hc => ?_, fun hc => ?_⟩
            · simp only [if_neg hc] at hQ
              have hok := hok.1 hc
              exact sp_R_first_j10 _ _ _ _ _ _ hok hQ
            · simp only [if_pos hc] at hQ
              have hok := hok.2 hc
              exact sp_R_first_j10 _ _ _ _ _ _ hok hQ
          · simp only [if_neg hc] at hQ
            have hok := hok.2 hc
            refine ⟨fun hc => ?_, fun hc => ?_⟩
            · simp only [if_pos hc] at hQ
              have hok := hok.1 hc
              refine sp_R_next _ _ hok.1 ?_
              have hok := hok.2 _ rfl _ rfl
              refine sp_R_setOperand _ _ _ _ hok ?_
              exact sp_R_first_j1 _ _ hQ
            · simp only [if_neg hc] at hQ
              have hok := hok.2 hc
              refine sp_R_accumulator _ _ _ hok ?_
              exact sp_R_first_j1 _ _ hQ
def f_R_spAnd_j2_v (x1 : Int32) (M2 : Mem) (x10 : Int32) (x14 : Int32) : Int32 := let M15 : Mem := f_R_flagged_m M2 (0 : Int32) (0 : Int32) x10 x14; let x16 : Int32 := f_R_signed_v M15 x1; (((M15 0 18) + x16) &&& (65535 : Int32))
def f_R_spAnd_j2_m (x1 : Int32) (M2 : Mem) (x10 : Int32) (x14 : Int32) : Mem := let M15 : Mem := f_R_flagged_m M2 (0 : Int32) (0 : Int32) x10 x14; M15
set_option maxRecDepth 100000 in
set_option maxHeartbeats 4000000 in
theorem sp_R_spAnd_j2 (x1 : Int32) (M2 : Mem) (x10 : Int32) (x14 : Int32) (Q : Int32 → Mem → Prop) (hQ : Q (f_R_spAnd_j2_v x1 M2 x10 x14) (f_R_spAnd_j2_m x1 M2 x10 x14)) : wp_R_spAnd_j2 x1 M2 x10 x14 Q := by
  unfold wp_R_spAnd_j2
  unfold f_R_spAnd_j2_v f_R_spAnd_j2_m at hQ
  refine sp_R_flagged _ _ _ _ _ _ ?_
  refine sp_R_signed _ _ _ ?_
  exact hQ
def f_R_spAnd_j1_v (x1 : Int32) (M2 : Mem) (x10 : Int32) : Int32 := (if (((M2 0 18) &&& (255 : Int32)) + x1) ≤ (255 : Int32) then (f_R_spAnd_j2_v x1 M2 x10 (0 : Int32)) else (f_R_spAnd_j2_v x1 M2 x10 (1 : Int32)))
def f_R_spAnd_j1_m (x1 : Int32) (M2 : Mem) (x10 : Int32) : Mem := (if (((M2 0 18) &&& (255 : Int32)) + x1) ≤ (255 : Int32) then (f_R_spAnd_j2_m x1 M2 x10 (0 : Int32)) else (f_R_spAnd_j2_m x1 M2 x10 (1 : Int32)))
set_option maxRecDepth 100000 in
set_option maxHeartbeats 4000000 in
theorem sp_R_spAnd_j1 (x1 : Int32) (M2 : Mem) (x10 : Int32) (Q : Int32 → Mem → Prop) (hQ : Q (f_R_spAnd_j1_v x1 M2 x10) (f_R_spAnd_j1_m x1 M2 x10)) : wp_R_spAnd_j1 x1 M2 x10 Q := by
  unfold wp_R_spAnd_j1
  unfold f_R_spAnd_j1_v f_R_spAnd_j1_m at hQ
  refine ⟨fun hc => ?_, fun hc => ?_⟩
  · simp only [if_pos hc] at hQ
    exact sp_R_spAnd_j2 _ _ _ _ _ hQ
  · simp only [if_neg hc] at hQ
    exact sp_R_spAnd_j2 _ _ _ _ _ hQ
def f_R_spAnd_v (M0 : Mem) : Int32 := let x1 : Int32 := f_R_next_v M0; let M2 : Mem := f_R_next_m M0; (if (((M2 0 18) &&& (15 : Int32)) + (x1 &&& (15 : Int32))) ≤ (15 : Int32) then (f_R_spAnd_j1_v x1 M2 (0 : Int32)) else (f_R_spAnd_j1_v x1 M2 (1 : Int32)))
def f_R_spAnd_m (M0 : Mem) : Mem := let x1 : Int32 := f_R_next_v M0; let M2 : Mem := f_R_next_m M0; (if (((M2 0 18) &&& (15 : Int32)) + (x1 &&& (15 : Int32))) ≤ (15 : Int32) then (f_R_spAnd_j1_m x1 M2 (0 : Int32)) else (f_R_spAnd_j1_m x1 M2 (1 : Int32)))
def ok_R_spAnd (M0 : Mem) : Prop := ok_R_next M0
set_option maxRecDepth 100000 in
set_option maxHeartbeats 4000000 in
theorem sp_R_spAnd (M0 : Mem) (Q : Int32 → Mem → Prop) (hok : ok_R_spAnd M0) (hQ : Q (f_R_spAnd_v M0) (f_R_spAnd_m M0)) : wp_R_spAnd M0 Q := by
  unfold wp_R_spAnd
  unfold ok_R_spAnd at hok
  unfold f_R_spAnd_v f_R_spAnd_m at hQ
  refine sp_R_next _ _ hok ?_
  refine ⟨fun hc => ?_, fun hc => ?_⟩
  · simp only [if_pos hc] at hQ
    exact sp_R_spAnd_j1 _ _ _ _ hQ
  · simp only [if_neg hc] at hQ
    exact sp_R_spAnd_j1 _ _ _ _ hQ
def f_R_bits_j1_m (M24 : Mem) : Mem := M24
set_option maxRecDepth 100000 in
set_option maxHeartbeats 4000000 in
theorem sp_R_bits_j1 (M24 : Mem) (Q : Mem → Prop) (hQ : Q (f_R_bits_j1_m M24)) : wp_R_bits_j1 M24 Q := by
  unfold wp_R_bits_j1
  unfold f_R_bits_j1_m at hQ
  exact hQ
def f_R_bits_j2_m (x5 : Int32) (M7 : Mem) (x27 : Int32) : Mem := let M28 : Mem := f_R_setOperand_m M7 x5 x27; (f_R_bits_j1_m M28)
def ok_R_bits_j2 (x5 : Int32) (M7 : Mem) (x27 : Int32) : Prop := ok_R_setOperand M7 x5 x27
set_option maxRecDepth 100000 in
set_option maxHeartbeats 4000000 in
theorem sp_R_bits_j2 (x5 : Int32) (M7 : Mem) (x27 : Int32) (Q : Mem → Prop) (hok : ok_R_bits_j2 x5 M7 x27) (hQ : Q (f_R_bits_j2_m x5 M7 x27)) : wp_R_bits_j2 x5 M7 x27 Q := by
  unfold wp_R_bits_j2
  unfold ok_R_bits_j2 at hok
  unfold f_R_bits_j2_m at hQ
  refine sp_R_setOperand _ _ _ _ hok ?_
  exact sp_R_bits_j1 _ _ hQ
def f_R_bits_j3_m (M7 : Mem) (x33 : Int32) : Mem := let M34 : Mem := f_R_flag_m M7 (128 : Int32) x33; let M35 : Mem := f_R_flag_m M34 (64 : Int32) (0 : Int32); let M36 : Mem := f_R_flag_m M35 (32 : Int32) (1 : Int32); (f_R_bits_j1_m M36)
set_option maxRecDepth 100000 in
set_option maxHeartbeats 4000000 in
theorem sp_R_bits_j3 (M7 : Mem) (x33 : Int32) (Q : Mem → Prop) (hQ : Q (f_R_bits_j3_m M7 x33)) : wp_R_bits_j3 M7 x33 Q := by
  unfold wp_R_bits_j3
  unfold f_R_bits_j3_m at hQ
  refine sp_R_flag _ _ _ _ ?_
  refine sp_R_flag _ _ _ _ ?_
  refine sp_R_flag _ _ _ _ ?_
  exact sp_R_bits_j1 _ _ hQ
def f_R_bits_m (M0 : Mem) : Mem := let x1 : Int32 := f_R_next_v M0; let M2 : Mem := f_R_next_m M0; let x3 : Int32 := (x1 >>> ((6 : Int32) &&& (31 : Int32))); let x4 : Int32 := ((x1 >>> ((3 : Int32) &&& (31 : Int32))) &&& (7 : Int32)); let x5 : Int32 := (x1 &&& (7 : Int32)); let x6 : Int32 := f_R_operand_v M2 x5; let M7 : Mem := f_R_operand_m M2 x5; (if x3 = 0 then let x37 : Int32 := f_R_turned_v M7 x4 x6; let M38 : Mem := f_R_turned_m M7 x4 x6; let M39 : Mem := f_R_setOperand_m M38 x5 x37; (f_R_bits_j1_m M39) else (if x3 = (1 : Int32) then (if ((x6 >>> (x4 &&& (31 : Int32))) &&& (1 : Int32)) = 0 then (f_R_bits_j3_m M7 (1 : Int32)) else (f_R_bits_j3_m M7 (0 : Int32))) else (if x3 = (2 : Int32) then (f_R_bits_j2_m x5 M7 (x6 &&& (((1 : Int32) <<< (x4 &&& (31 : Int32))) ^^^ (-1 : Int32)))) else (f_R_bits_j2_m x5 M7 (x6 ||| ((1 : Int32) <<< (x4 &&& (31 : Int32))))))))
def ok_R_bits (M0 : Mem) : Prop := ok_R_next M0 ∧ (∀ x1 : Int32, x1 = f_R_next_v M0 → ∀ M2 : Mem, M2 = f_R_next_m M0 → ∀ x3 : Int32, x3 = (x1 >>> ((6 : Int32) &&& (31 : Int32))) → ∀ x4 : Int32, x4 = ((x1 >>> ((3 : Int32) &&& (31 : Int32))) &&& (7 : Int32)) → ∀ x5 : Int32, x5 = (x1 &&& (7 : Int32)) → ok_R_operand M2 x5 ∧ (∀ x6 : Int32, x6 = f_R_operand_v M2 x5 → ∀ M7 : Mem, M7 = f_R_operand_m M2 x5 → (((¬ x3 = 0) → (((¬ x3 = (1 : Int32)) → (((¬ x3 = (2 : Int32)) → ok_R_bits_j2 x5 M7 (x6 ||| ((1 : Int32) <<< (x4 &&& (31 : Int32))))) ∧ ((x3 = (2 : Int32)) → ok_R_bits_j2 x5 M7 (x6 &&& (((1 : Int32) <<< (x4 &&& (31 : Int32))) ^^^ (-1 : Int32)))))) ∧ ((x3 = (1 : Int32)) → True))) ∧ ((x3 = 0) → ok_R_turned M7 x4 x6 ∧ (∀ x37 : Int32, x37 = f_R_turned_v M7 x4 x6 → ∀ M38 : Mem, M38 = f_R_turned_m M7 x4 x6 → ok_R_setOperand M38 x5 x37)))))
set_option maxRecDepth 100000 in
set_option maxHeartbeats 4000000 in
theorem sp_R_bits (M0 : Mem) (Q : Mem → Prop) (hok : ok_R_bits M0) (hQ : Q (f_R_bits_m M0)) : wp_R_bits M0 Q := by
  unfold wp_R_bits
  unfold ok_R_bits at hok
  unfold f_R_bits_m at hQ
  refine sp_R_next _ _ hok.1 ?_
  have hok := hok.2 _ rfl _ rfl
  intro x3 h_; subst h_
  have hok := hok _ rfl
  intro x4 h_; subst h_
  have hok := hok _ rfl
  intro x5 h_; subst h_
  have hok := hok _ rfl
  refine sp_R_operand _ _ _ hok.1 ?_
  have hok := hok.2 _ rfl _ rfl
  refine ⟨fun hc => ?_, fun hc => ?_⟩
  · simp only [if_neg hc] at hQ
    have hok := hok.1 hc
    refine ⟨fun hc => ?_, fun hc => ?_⟩
    · simp only [if_neg hc] at hQ
      have hok := hok.1 hc
      refine ⟨fun hc => ?_, fun hc => ?_⟩
      · simp only [if_neg hc] at hQ
        have hok := hok.1 hc
        exact sp_R_bits_j2 _ _ _ _ hok hQ
      · simp only [if_pos hc] at hQ
        have hok := hok.2 hc
        exact sp_R_bits_j2 _ _ _ _ hok hQ
    · simp only [if_pos hc] at hQ
      refine ⟨fun hc => ?_, fun hc => ?_⟩
      · simp only [if_neg hc] at hQ
        exact sp_R_bits_j3 _ _ _ hQ
      · simp only [if_pos hc] at hQ
        exact sp_R_bits_j3 _ _ _ hQ
  · simp only [if_pos hc] at hQ
    have hok := hok.2 hc
    refine sp_R_turned _ _ _ _ hok.1 ?_
    have hok := hok.2 _ rfl _ rfl
    refine sp_R_setOperand _ _ _ _ hok ?_
    exact sp_R_bits_j1 _ _ hQ
def f_R_third_j1_m (M90 : Mem) : Mem := M90
set_option maxRecDepth 100000 in
set_option maxHeartbeats 4000000 in
theorem sp_R_third_j1 (M90 : Mem) (Q : Mem → Prop) (hQ : Q (f_R_third_j1_m M90)) : wp_R_third_j1 M90 Q := by
  unfold wp_R_third_j1
  unfold f_R_third_j1_m at hQ
  exact hQ
def f_R_third_j2_m (M129 : Mem) : Mem := (f_R_third_j1_m M129)
set_option maxRecDepth 100000 in
set_option maxHeartbeats 4000000 in
theorem sp_R_third_j2 (M129 : Mem) (Q : Mem → Prop) (hQ : Q (f_R_third_j2_m M129)) : wp_R_third_j2 M129 Q := by
  unfold wp_R_third_j2
  unfold f_R_third_j2_m at hQ
  exact sp_R_third_j1 _ _ hQ
def f_R_third_j3_m (M0 : Mem) (x169 : Int32) : Mem := let M170 : Mem := f_R_push_m M0 x169; let M171 : Mem := mst M170 0 20 ((M170 0 20) + (1 : Int32)); (f_R_third_j1_m M171)
def ok_R_third_j3 (M0 : Mem) (x169 : Int32) : Prop := ok_R_push M0 x169
set_option maxRecDepth 100000 in
set_option maxHeartbeats 4000000 in
theorem sp_R_third_j3 (M0 : Mem) (x169 : Int32) (Q : Mem → Prop) (hok : ok_R_third_j3 M0 x169) (hQ : Q (f_R_third_j3_m M0 x169)) : wp_R_third_j3 M0 x169 Q := by
  unfold wp_R_third_j3
  unfold ok_R_third_j3 at hok
  unfold f_R_third_j3_m at hQ
  refine sp_R_push _ _ _ hok ?_
  intro M171 h_; subst h_
  exact sp_R_third_j1 _ _ hQ
def f_R_third_m (M0 : Mem) (a1 : Int32) (a2 : Int32) : Mem := let x1 : Int32 := (a1 &&& (1 : Int32)); let x2 : Int32 := (a1 >>> ((1 : Int32) &&& (31 : Int32))); (if (a2 = (0 : Int32)) then (if (4 : Int32) ≤ a1 then (if a1 = (4 : Int32) then let x104 : Int32 := f_R_next_v M0; let M105 : Mem := f_R_next_m M0; let M106 : Mem := f_R_writes_m M105 ((65280 : Int32) + x104) (M105 8 7); (f_R_third_j1_m M106) else (if a1 = (6 : Int32) then let x99 : Int32 := f_R_next_v M0; let M100 : Mem := f_R_next_m M0; let x101 : Int32 := f_R_reads_v M100 ((65280 : Int32) + x99); let M102 : Mem := f_R_reads_m M100 ((65280 : Int32) + x99); let M103 : Mem := mst M102 8 7 x101; (f_R_third_j1_m M103) else (if a1 = (5 : Int32) then let x95 : Int32 := f_R_spAnd_v M0; let M96 : Mem := f_R_spAnd_m M0; let M97 : Mem := mst M96 0 18 x95; let M98 : Mem := mst M97 0 20 ((M97 0 20) + (2 : Int32)); (f_R_third_j1_m M98) else let x91 : Int32 := f_R_spAnd_v M0; let M92 : Mem := f_R_spAnd_m M0; let M93 : Mem := f_R_setPair_m M92 (2 : Int32) x91; let M94 : Mem := mst M93 0 20 ((M93 0 20) + (1 : Int32)); (f_R_third_j1_m M94)))) else let M107 : Mem := mst M0 0 20 ((M0 0 20) + (1 : Int32)); let x108 : Int32 := f_R_holds_v M107 a1; (if x108 = 0 then (f_R_third_j1_m M107) else let x109 : Int32 := f_R_pop_v M107; let M110 : Mem := f_R_pop_m M107; let M111 : Mem := mst M110 0 19 x109; let M112 : Mem := mst M111 0 20 ((M111 0 20) + (1 : Int32)); (f_R_third_j1_m M112))) else (if (a2 = (1 : Int32)) then (if x1 = 0 then let x123 : Int32 := f_R_pop_v M0; let M124 : Mem := f_R_pop_m M0; (if (3 : Int32) ≤ x2 then let M130 : Mem := mst M124 8 7 (x123 >>> ((8 : Int32) &&& (31 : Int32))); let M131 : Mem := mst M130 8 6 (x123 &&& (240 : Int32)); (f_R_third_j2_m M131) else let M132 : Mem := f_R_setPair_m M124 x2 x123; (f_R_third_j2_m M132)) else (if (2 : Int32) ≤ x2 then (if x2 = (2 : Int32) then let x116 : Int32 := f_R_pair_v M0 (2 : Int32); let M117 : Mem := mst M0 0 19 x116; (f_R_third_j1_m M117) else let x113 : Int32 := f_R_pair_v M0 (2 : Int32); let M114 : Mem := mst M0 0 18 x113; let M115 : Mem := mst M114 0 20 ((M114 0 20) + (1 : Int32)); (f_R_third_j1_m M115)) else let x118 : Int32 := f_R_pop_v M0; let M119 : Mem := f_R_pop_m M0; let M120 : Mem := mst M119 0 19 x118; let M121 : Mem := mst M120 0 20 ((M120 0 20) + (1 : Int32)); (if x2 = (1 : Int32) then let M122 : Mem := mst M121 0 21 (1 : Int32); (f_R_third_j1_m M122) else (f_R_third_j1_m M121)))) else (if (a2 = (2 : Int32)) then (if (4 : Int32) ≤ a1 then (if a1 = (4 : Int32) then let M144 : Mem := f_R_writes_m M0 ((65280 : Int32) + (M0 8 1)) (M0 8 7); (f_R_third_j1_m M144) else (if a1 = (6 : Int32) then let x141 : Int32 := f_R_reads_v M0 ((65280 : Int32) + (M0 8 1)); let M142 : Mem := f_R_reads_m M0 ((65280 : Int32) + (M0 8 1)); let M143 : Mem := mst M142 8 7 x141; (f_R_third_j1_m M143) else (if a1 = (5 : Int32) then let x138 : Int32 := f_R_nextWord_v M0; let M139 : Mem := f_R_nextWord_m M0; let M140 : Mem := f_R_writes_m M139 x138 (M139 8 7); (f_R_third_j1_m M140) else let x133 : Int32 := f_R_nextWord_v M0; let M134 : Mem := f_R_nextWord_m M0; let x135 : Int32 := f_R_reads_v M134 x133; let M136 : Mem := f_R_reads_m M134 x133; let M137 : Mem := mst M136 8 7 x135; (f_R_third_j1_m M137)))) else let x145 : Int32 := f_R_nextWord_v M0; let M146 : Mem := f_R_nextWord_m M0; let x147 : Int32 := f_R_holds_v M146 a1; let M148 : Mem := f_R_jumps_m M146 x147 x145; (f_R_third_j1_m M148)) else (if (a2 = (3 : Int32)) then (if a1 = 0 then let x153 : Int32 := f_R_nextWord_v M0; let M154 : Mem := f_R_nextWord_m M0; let M155 : Mem := f_R_jumps_m M154 (1 : Int32) x153; (f_R_third_j1_m M155) else (if a1 = (1 : Int32) then let M152 : Mem := f_R_bits_m M0; (f_R_third_j1_m M152) else (if a1 = (6 : Int32) then let M151 : Mem := mst M0 0 21 (0 : Int32); (f_R_third_j1_m M151) else (if a1 = (7 : Int32) then let M150 : Mem := mst M0 0 24 (1 : Int32); (f_R_third_j1_m M150) else let M149 : Mem := mst M0 0 23 (1 : Int32); (f_R_third_j1_m M149))))) else (if (a2 = (4 : Int32)) then (if a1 ≤ (3 : Int32) then let x156 : Int32 := f_R_nextWord_v M0; let M157 : Mem := f_R_nextWord_m M0; let x158 : Int32 := f_R_holds_v M157 a1; let M159 : Mem := f_R_calls_m M157 x158 x156; (f_R_third_j1_m M159) else let M160 : Mem := mst M0 0 23 (1 : Int32); (f_R_third_j1_m M160)) else (if (a2 = (5 : Int32)) then (if x1 = 0 then (if (3 : Int32) ≤ x2 then (f_R_third_j3_m M0 (((M0 8 7) <<< ((8 : Int32) &&& (31 : Int32))) ||| (M0 8 6))) else let x172 : Int32 := f_R_pair_v M0 x2; (f_R_third_j3_m M0 x172)) else (if x2 = 0 then let x162 : Int32 := f_R_nextWord_v M0; let M163 : Mem := f_R_nextWord_m M0; let M164 : Mem := f_R_calls_m M163 (1 : Int32) x162; (f_R_third_j1_m M164) else let M161 : Mem := mst M0 0 23 (1 : Int32); (f_R_third_j1_m M161))) else (if (a2 = (6 : Int32)) then let x173 : Int32 := f_R_next_v M0; let M174 : Mem := f_R_next_m M0; let M175 : Mem := f_R_reckons_m M174 a1 x173; (f_R_third_j1_m M175) else let M176 : Mem := f_R_calls_m M0 (1 : Int32) ((8 : Int32) * a1); (f_R_third_j1_m M176))))))))
def ok_R_third (M0 : Mem) (a1 : Int32) (a2 : Int32) : Prop := ∀ x1 : Int32, x1 = (a1 &&& (1 : Int32)) → ∀ x2 : Int32, x2 = (a1 >>> ((1 : Int32) &&& (31 : Int32))) → ((((a2 = (0 : Int32))) → ((((4 : Int32) ≤ a1) → (((¬ a1 = (4 : Int32)) → (((¬ a1 = (6 : Int32)) → (((¬ a1 = (5 : Int32)) → ok_R_spAnd M0 ∧ (∀ x91 : Int32, x91 = f_R_spAnd_v M0 → ∀ M92 : Mem, M92 = f_R_spAnd_m M0 → ok_R_setPair M92 (2 : Int32) x91)) ∧ ((a1 = (5 : Int32)) → ok_R_spAnd M0))) ∧ ((a1 = (6 : Int32)) → ok_R_next M0 ∧ (∀ x99 : Int32, x99 = f_R_next_v M0 → ∀ M100 : Mem, M100 = f_R_next_m M0 → ok_R_reads M100 ((65280 : Int32) + x99))))) ∧ ((a1 = (4 : Int32)) → ok_R_next M0 ∧ (∀ x104 : Int32, x104 = f_R_next_v M0 → ∀ M105 : Mem, M105 = f_R_next_m M0 → ok_R_writes M105 ((65280 : Int32) + x104) (M105 8 7))))) ∧ ((¬ (4 : Int32) ≤ a1) → ∀ M107 : Mem, M107 = mst M0 0 20 ((M0 0 20) + (1 : Int32)) → ok_R_holds M107 a1 ∧ (∀ x108 : Int32, x108 = f_R_holds_v M107 a1 → (((x108 = 0) → True) ∧ ((¬ x108 = 0) → ok_R_pop M107)))))) ∧ ((¬ (a2 = (0 : Int32))) → ((((a2 = (1 : Int32))) → (((¬ x1 = 0) → ((((2 : Int32) ≤ x2) → (((¬ x2 = (2 : Int32)) → ok_R_pair M0 (2 : Int32)) ∧ ((x2 = (2 : Int32)) → ok_R_pair M0 (2 : Int32)))) ∧ ((¬ (2 : Int32) ≤ x2) → ok_R_pop M0))) ∧ ((x1 = 0) → ok_R_pop M0 ∧ (∀ x123 : Int32, x123 = f_R_pop_v M0 → ∀ M124 : Mem, M124 = f_R_pop_m M0 → ((((3 : Int32) ≤ x2) → True) ∧ ((¬ (3 : Int32) ≤ x2) → ok_R_setPair M124 x2 x123)))))) ∧ ((¬ (a2 = (1 : Int32))) → ((((a2 = (2 : Int32))) → ((((4 : Int32) ≤ a1) → (((¬ a1 = (4 : Int32)) → (((¬ a1 = (6 : Int32)) → (((¬ a1 = (5 : Int32)) → ok_R_nextWord M0 ∧ (∀ x133 : Int32, x133 = f_R_nextWord_v M0 → ∀ M134 : Mem, M134 = f_R_nextWord_m M0 → ok_R_reads M134 x133)) ∧ ((a1 = (5 : Int32)) → ok_R_nextWord M0 ∧ (∀ x138 : Int32, x138 = f_R_nextWord_v M0 → ∀ M139 : Mem, M139 = f_R_nextWord_m M0 → ok_R_writes M139 x138 (M139 8 7))))) ∧ ((a1 = (6 : Int32)) → ok_R_reads M0 ((65280 : Int32) + (M0 8 1))))) ∧ ((a1 = (4 : Int32)) → ok_R_writes M0 ((65280 : Int32) + (M0 8 1)) (M0 8 7)))) ∧ ((¬ (4 : Int32) ≤ a1) → ok_R_nextWord M0 ∧ (∀ x145 : Int32, x145 = f_R_nextWord_v M0 → ∀ M146 : Mem, M146 = f_R_nextWord_m M0 → ok_R_holds M146 a1)))) ∧ ((¬ (a2 = (2 : Int32))) → ((((a2 = (3 : Int32))) → (((¬ a1 = 0) → (((¬ a1 = (1 : Int32)) → True) ∧ ((a1 = (1 : Int32)) → ok_R_bits M0))) ∧ ((a1 = 0) → ok_R_nextWord M0))) ∧ ((¬ (a2 = (3 : Int32))) → ((((a2 = (4 : Int32))) → (((a1 ≤ (3 : Int32)) → ok_R_nextWord M0 ∧ (∀ x156 : Int32, x156 = f_R_nextWord_v M0 → ∀ M157 : Mem, M157 = f_R_nextWord_m M0 → ok_R_holds M157 a1 ∧ (∀ x158 : Int32, x158 = f_R_holds_v M157 a1 → ok_R_calls M157 x158 x156))) ∧ ((¬ a1 ≤ (3 : Int32)) → True))) ∧ ((¬ (a2 = (4 : Int32))) → ((((a2 = (5 : Int32))) → (((¬ x1 = 0) → (((¬ x2 = 0) → True) ∧ ((x2 = 0) → ok_R_nextWord M0 ∧ (∀ x162 : Int32, x162 = f_R_nextWord_v M0 → ∀ M163 : Mem, M163 = f_R_nextWord_m M0 → ok_R_calls M163 (1 : Int32) x162)))) ∧ ((x1 = 0) → ((((3 : Int32) ≤ x2) → ok_R_third_j3 M0 (((M0 8 7) <<< ((8 : Int32) &&& (31 : Int32))) ||| (M0 8 6))) ∧ ((¬ (3 : Int32) ≤ x2) → ok_R_pair M0 x2 ∧ (∀ x172 : Int32, x172 = f_R_pair_v M0 x2 → ok_R_third_j3 M0 x172)))))) ∧ ((¬ (a2 = (5 : Int32))) → ((((a2 = (6 : Int32))) → ok_R_next M0 ∧ (∀ x173 : Int32, x173 = f_R_next_v M0 → ∀ M174 : Mem, M174 = f_R_next_m M0 → ok_R_reckons M174 a1 x173)) ∧ ((¬ (a2 = (6 : Int32))) → ok_R_calls M0 (1 : Int32) ((8 : Int32) * a1)))))))))))))))
set_option maxRecDepth 100000 in
set_option maxHeartbeats 4000000 in
theorem sp_R_third (M0 : Mem) (a1 : Int32) (a2 : Int32) (Q : Mem → Prop) (hok : ok_R_third M0 a1 a2) (hQ : Q (f_R_third_m M0 a1 a2)) : wp_R_third M0 a1 a2 Q := by
  unfold wp_R_third
  unfold ok_R_third at hok
  unfold f_R_third_m at hQ
  intro x1 h_; subst h_
  have hok := hok _ rfl
  intro x2 h_; subst h_
  have hok := hok _ rfl
  refine ⟨fun hc => ?_, fun hc => ?_⟩
  · simp only [if_pos hc] at hQ
    have hok := hok.1 hc
    refine ⟨fun hc => ?_, fun hc => ?_⟩
    · simp only [if_pos hc] at hQ
      have hok := hok.1 hc
      refine ⟨fun hc => ?_, fun hc => ?_⟩
      · simp only [if_neg hc] at hQ
        have hok := hok.1 hc
        refine ⟨fun hc => ?_, fun hc => ?_⟩
        · simp only [if_neg hc] at hQ
          have hok := hok.1 hc
          refine ⟨fun hc => ?_, fun hc => ?_⟩
          · simp only [if_neg hc] at hQ
            have hok := hok.1 hc
            refine sp_R_spAnd _ _ hok.1 ?_
            have hok := hok.2 _ rfl _ rfl
            refine sp_R_setPair _ _ _ _ hok ?_
            intro M94 h_; subst h_
            exact sp_R_third_j1 _ _ hQ
          · simp only [if_pos hc] at hQ
            have hok := hok.2 hc
            refine sp_R_spAnd _ _ hok ?_
            intro M97 h_; subst h_
            intro M98 h_; subst h_
            exact sp_R_third_j1 _ _ hQ
        · simp only [if_pos hc] at hQ
          have hok := hok.2 hc
          refine sp_R_next _ _ hok.1 ?_
          have hok := hok.2 _ rfl _ rfl
          refine sp_R_reads _ _ _ hok ?_
          intro M103 h_; subst h_
          exact sp_R_third_j1 _ _ hQ
      · simp only [if_pos hc] at hQ
        have hok := hok.2 hc
        refine sp_R_next _ _ hok.1 ?_
        have hok := hok.2 _ rfl _ rfl
        refine sp_R_writes _ _ _ _ hok ?_
        exact sp_R_third_j1 _ _ hQ
    · simp only [if_neg hc] at hQ
      have hok := hok.2 hc
      intro M107 h_; subst h_
      have hok := hok _ rfl
      refine sp_R_holds _ _ _ hok.1 ?_
      have hok := hok.2 _ rfl
      refine ⟨fun hc => ?_, fun hc => ?_⟩
      · simp only [if_pos hc] at hQ
        exact sp_R_third_j1 _ _ hQ
      · simp only [if_neg hc] at hQ
        have hok := hok.2 hc
        refine sp_R_pop _ _ hok ?_
        intro M111 h_; subst h_
        intro M112 h_; subst h_
        exact sp_R_third_j1 _ _ hQ
  · simp only [if_neg hc] at hQ
    have hok := hok.2 hc
    refine ⟨fun hc => ?_, fun hc => ?_⟩
    · simp only [if_pos hc] at hQ
      have hok := hok.1 hc
      refine ⟨fun hc => ?_, fun hc => ?_⟩
      · simp only [if_neg hc] at hQ
        have hok := hok.1 hc
        refine ⟨fun hc => ?_, fun hc => ?_⟩
        · simp only [if_pos hc] at hQ
          have hok := hok.1 hc
          refine ⟨fun hc => ?_, fun hc => ?_⟩
          · simp only [if_neg hc] at hQ
            have hok := hok.1 hc
            refine sp_R_pair _ _ _ hok ?_
            intro M114 h_; subst h_
            intro M115 h_; subst h_
            exact sp_R_third_j1 _ _ hQ
          · simp only [if_pos hc] at hQ
            have hok := hok.2 hc
            refine sp_R_pair _ _ _ hok ?_
            intro M117 h_; subst h_
            exact sp_R_third_j1 _ _ hQ
        · simp only [if_neg hc] at hQ
          have hok := hok.2 hc
          refine sp_R_pop _ _ hok ?_
          intro M120 h_; subst h_
          intro M121 h_; subst h_
          refine ⟨fun hc => ?_, fun hc => ?_⟩
          · simp only [if_neg hc] at hQ
            exact sp_R_third_j1 _ _ hQ
          · simp only [if_pos hc] at hQ
            intro M122 h_; subst h_
            exact sp_R_third_j1 _ _ hQ
      · simp only [if_pos hc] at hQ
        have hok := hok.2 hc
        refine sp_R_pop _ _ hok.1 ?_
        have hok := hok.2 _ rfl _ rfl
        refine ⟨fun hc => ?_, fun hc => ?_⟩
        · simp only [if_pos hc] at hQ
          intro M130 h_; subst h_
          intro M131 h_; subst h_
          exact sp_R_third_j2 _ _ hQ
        · simp only [if_neg hc] at hQ
          have hok := hok.2 hc
          refine sp_R_setPair _ _ _ _ hok ?_
          exact sp_R_third_j2 _ _ hQ
    · simp only [if_neg hc] at hQ
      have hok := hok.2 hc
      refine ⟨fun hc => ?_, fun hc => ?_⟩
      · simp only [if_pos hc] at hQ
        have hok := hok.1 hc
        refine ⟨fun hc => ?_, fun hc => ?_⟩
        · simp only [if_pos hc] at hQ
          have hok := hok.1 hc
          refine ⟨fun hc => ?_, fun hc => ?_⟩
          · simp only [if_neg hc] at hQ
            have hok := hok.1 hc
            refine ⟨fun hc => ?_, fun hc => ?_⟩
            · simp only [if_neg hc] at hQ
              have hok := hok.1 hc
              refine ⟨fun hc => ?_, fun hc => ?_⟩
              · simp only [if_neg hc] at hQ
                have hok := hok.1 hc
                refine sp_R_nextWord _ _ hok.1 ?_
                have hok := hok.2 _ rfl _ rfl
                refine sp_R_reads _ _ _ hok ?_
                intro M137 h_; subst h_
                exact sp_R_third_j1 _ _ hQ
              · simp only [if_pos hc] at hQ
                have hok := hok.2 hc
                refine sp_R_nextWord _ _ hok.1 ?_
                have hok := hok.2 _ rfl _ rfl
                refine sp_R_writes _ _ _ _ hok ?_
                exact sp_R_third_j1 _ _ hQ
            · simp only [if_pos hc] at hQ
              have hok := hok.2 hc
              refine sp_R_reads _ _ _ hok ?_
              intro M143 h_; subst h_
              exact sp_R_third_j1 _ _ hQ
          · simp only [if_pos hc] at hQ
            have hok := hok.2 hc
            refine sp_R_writes _ _ _ _ hok ?_
            exact sp_R_third_j1 _ _ hQ
        · simp only [if_neg hc] at hQ
          have hok := hok.2 hc
          refine sp_R_nextWord _ _ hok.1 ?_
          have hok := hok.2 _ rfl _ rfl
          refine sp_R_holds _ _ _ hok ?_
          refine sp_R_jumps _ _ _ _ ?_
          exact sp_R_third_j1 _ _ hQ
      · simp only [if_neg hc] at hQ
        have hok := hok.2 hc
        refine ⟨fun hc => ?_, fun hc => ?_⟩
        · simp only [if_pos hc] at hQ
          have hok := hok.1 hc
          refine ⟨fun hc => ?_, fun hc => ?_⟩
          · simp only [if_neg hc] at hQ
            have hok := hok.1 hc
            refine ⟨fun hc => ?_, fun hc => ?_⟩
            · simp only [if_neg hc] at hQ
              refine ⟨fun hc => ?_, fun hc => ?_⟩
              · simp only [if_neg hc] at hQ
                refine ⟨fun hc => ?_, fun hc => ?_⟩
                · simp only [if_neg hc] at hQ
                  intro M149 h_; subst h_
                  exact sp_R_third_j1 _ _ hQ
                · simp only [if_pos hc] at hQ
                  intro M150 h_; subst h_
                  exact sp_R_third_j1 _ _ hQ
              · simp only [if_pos hc] at hQ
                intro M151 h_; subst h_
                exact sp_R_third_j1 _ _ hQ
            · simp only [if_pos hc] at hQ
              have hok := hok.2 hc
              refine sp_R_bits _ _ hok ?_
              exact sp_R_third_j1 _ _ hQ
          · simp only [if_pos hc] at hQ
            have hok := hok.2 hc
            refine sp_R_nextWord _ _ hok ?_
            refine sp_R_jumps _ _ _ _ ?_
            exact sp_R_third_j1 _ _ hQ
        · simp only [if_neg hc] at hQ
          have hok := hok.2 hc
          refine ⟨fun hc => ?_, fun hc => ?_⟩
          · simp only [if_pos hc] at hQ
            have hok := hok.1 hc
            refine ⟨fun hc => ?_, fun hc => ?_⟩
            · simp only [if_pos hc] at hQ
              have hok := hok.1 hc
              refine sp_R_nextWord _ _ hok.1 ?_
              have hok := hok.2 _ rfl _ rfl
              refine sp_R_holds _ _ _ hok.1 ?_
              have hok := hok.2 _ rfl
              refine sp_R_calls _ _ _ _ hok ?_
              exact sp_R_third_j1 _ _ hQ
            · simp only [if_neg hc] at hQ
              intro M160 h_; subst h_
              exact sp_R_third_j1 _ _ hQ
          · simp only [if_neg hc] at hQ
            have hok := hok.2 hc
            refine ⟨fun hc => ?_, fun hc => ?_⟩
            · simp only [if_pos hc] at hQ
              have hok := hok.1 hc
              refine ⟨fun hc => ?_, fun hc => ?_⟩
              · simp only [if_neg hc] at hQ
                have hok := hok.1 hc
                refine ⟨fun hc => ?_, fun hc => ?_⟩
                · simp only [if_neg hc] at hQ
                  intro M161 h_; subst h_
                  exact sp_R_third_j1 _ _ hQ
                · simp only [if_pos hc] at hQ
                  have hok := hok.2 hc
                  refine sp_R_nextWord _ _ hok.1 ?_
                  have hok := hok.2 _ rfl _ rfl
                  refine sp_R_calls _ _ _ _ hok ?_
                  exact sp_R_third_j1 _ _ hQ
              · simp only [if_pos hc] at hQ
                have hok := hok.2 hc
                refine ⟨fun hc => ?_, fun hc => ?_⟩
                · simp only [if_pos hc] at hQ
                  have hok := hok.1 hc
                  exact sp_R_third_j3 _ _ _ hok hQ
                · simp only [if_neg hc] at hQ
                  have hok := hok.2 hc
                  refine sp_R_pair _ _ _ hok.1 ?_
                  have hok := hok.2 _ rfl
                  exact sp_R_third_j3 _ _ _ hok hQ
            · simp only [if_neg hc] at hQ
              have hok := hok.2 hc
              refine ⟨fun hc => ?_, fun hc => ?_⟩
              · simp only [if_pos hc] at hQ
                have hok := hok.1 hc
                refine sp_R_next _ _ hok.1 ?_
                have hok := hok.2 _ rfl _ rfl
                refine sp_R_reckons _ _ _ _ hok ?_
                exact sp_R_third_j1 _ _ hQ
              · simp only [if_neg hc] at hQ
                have hok := hok.2 hc
                refine sp_R_calls _ _ _ _ hok ?_
                exact sp_R_third_j1 _ _ hQ
def f_R_step_j3_v (M87 : Mem) : Int32 := (1 : Int32)
def f_R_step_j3_m (M87 : Mem) : Mem := let M88 : Mem := mst M87 0 48 ((M87 0 48) + (1 : Int32)); M88
set_option maxRecDepth 100000 in
set_option maxHeartbeats 4000000 in
theorem sp_R_step_j3 (M87 : Mem) (Q : Int32 → Mem → Prop) (hQ : Q (f_R_step_j3_v M87) (f_R_step_j3_m M87)) : wp_R_step_j3 M87 Q := by
  unfold wp_R_step_j3
  unfold f_R_step_j3_v f_R_step_j3_m at hQ
  intro M88 h_; subst h_
  exact hQ
def f_R_step_j2_v (x59 : Int32) (x61 : Int32) (M83 : Mem) : Int32 := (if (M83 0 23) = 0 then (if x59 = 0 then (f_R_step_j3_v M83) else (if x61 = (243 : Int32) then (f_R_step_j3_v M83) else let M89 : Mem := mst M83 0 21 (1 : Int32); (f_R_step_j3_v M89))) else (0 : Int32))
def f_R_step_j2_m (x59 : Int32) (x61 : Int32) (M83 : Mem) : Mem := (if (M83 0 23) = 0 then (if x59 = 0 then (f_R_step_j3_m M83) else (if x61 = (243 : Int32) then (f_R_step_j3_m M83) else let M89 : Mem := mst M83 0 21 (1 : Int32); (f_R_step_j3_m M89))) else let M90 : Mem := mst M83 0 20 (0 : Int32); M90)
set_option maxRecDepth 100000 in
set_option maxHeartbeats 4000000 in
theorem sp_R_step_j2 (x59 : Int32) (x61 : Int32) (M83 : Mem) (Q : Int32 → Mem → Prop) (hQ : Q (f_R_step_j2_v x59 x61 M83) (f_R_step_j2_m x59 x61 M83)) : wp_R_step_j2 x59 x61 M83 Q := by
  unfold wp_R_step_j2
  unfold f_R_step_j2_v f_R_step_j2_m at hQ
  refine ⟨fun hc => ?_, fun hc => ?_⟩
  · simp only [if_pos hc] at hQ
    refine ⟨fun hc => ?_, fun hc => ?_⟩
    · simp only [if_pos hc] at hQ
      exact sp_R_step_j3 _ _ hQ
    · simp only [if_neg hc] at hQ
      refine ⟨fun hc => ?_, fun hc => ?_⟩
      · simp only [if_pos hc] at hQ
        exact sp_R_step_j3 _ _ hQ
      · simp only [if_neg hc] at hQ
        intro M89 h_; subst h_
        exact sp_R_step_j3 _ _ hQ
  · simp only [if_neg hc] at hQ
    intro M90 h_; subst h_
    exact hQ
def f_R_step_j1_v (M58 : Mem) : Int32 := (if (M58 0 22) = 0 then let x59 : Int32 := (M58 0 24); let M60 : Mem := mst M58 0 24 (0 : Int32); let x61 : Int32 := f_R_next_v M60; let M62 : Mem := f_R_next_m M60; let x63 : Int32 := (x61 >>> ((6 : Int32) &&& (31 : Int32))); let x64 : Int32 := ((x61 >>> ((3 : Int32) &&& (31 : Int32))) &&& (7 : Int32)); let x65 : Int32 := (x61 &&& (7 : Int32)); (if x63 = 0 then let M99 : Mem := f_R_first_m M62 x64 x65; (f_R_step_j2_v x59 x61 M99) else (if x61 = (118 : Int32) then let M98 : Mem := mst M62 0 22 (1 : Int32); (f_R_step_j2_v x59 x61 M98) else (if x63 = (1 : Int32) then let x95 : Int32 := f_R_operand_v M62 x65; let M96 : Mem := f_R_operand_m M62 x65; let M97 : Mem := f_R_setOperand_m M96 x64 x95; (f_R_step_j2_v x59 x61 M97) else (if x63 = (2 : Int32) then let x92 : Int32 := f_R_operand_v M62 x65; let M93 : Mem := f_R_operand_m M62 x65; let M94 : Mem := f_R_reckons_m M93 x64 x92; (f_R_step_j2_v x59 x61 M94) else let M91 : Mem := f_R_third_m M62 x64 x65; (f_R_step_j2_v x59 x61 M91))))) else (1 : Int32))
def f_R_step_j1_m (M58 : Mem) : Mem := (if (M58 0 22) = 0 then let x59 : Int32 := (M58 0 24); let M60 : Mem := mst M58 0 24 (0 : Int32); let x61 : Int32 := f_R_next_v M60; let M62 : Mem := f_R_next_m M60; let x63 : Int32 := (x61 >>> ((6 : Int32) &&& (31 : Int32))); let x64 : Int32 := ((x61 >>> ((3 : Int32) &&& (31 : Int32))) &&& (7 : Int32)); let x65 : Int32 := (x61 &&& (7 : Int32)); (if x63 = 0 then let M99 : Mem := f_R_first_m M62 x64 x65; (f_R_step_j2_m x59 x61 M99) else (if x61 = (118 : Int32) then let M98 : Mem := mst M62 0 22 (1 : Int32); (f_R_step_j2_m x59 x61 M98) else (if x63 = (1 : Int32) then let x95 : Int32 := f_R_operand_v M62 x65; let M96 : Mem := f_R_operand_m M62 x65; let M97 : Mem := f_R_setOperand_m M96 x64 x95; (f_R_step_j2_m x59 x61 M97) else (if x63 = (2 : Int32) then let x92 : Int32 := f_R_operand_v M62 x65; let M93 : Mem := f_R_operand_m M62 x65; let M94 : Mem := f_R_reckons_m M93 x64 x92; (f_R_step_j2_m x59 x61 M94) else let M91 : Mem := f_R_third_m M62 x64 x65; (f_R_step_j2_m x59 x61 M91))))) else let M100 : Mem := mst M58 0 48 ((M58 0 48) + (1 : Int32)); let M101 : Mem := mst M100 0 20 (1 : Int32); M101)
def ok_R_step_j1 (M58 : Mem) : Prop := ((((M58 0 22) = 0) → ∀ x59 : Int32, x59 = (M58 0 24) → ∀ M60 : Mem, M60 = mst M58 0 24 (0 : Int32) → ok_R_next M60 ∧ (∀ x61 : Int32, x61 = f_R_next_v M60 → ∀ M62 : Mem, M62 = f_R_next_m M60 → ∀ x63 : Int32, x63 = (x61 >>> ((6 : Int32) &&& (31 : Int32))) → ∀ x64 : Int32, x64 = ((x61 >>> ((3 : Int32) &&& (31 : Int32))) &&& (7 : Int32)) → ∀ x65 : Int32, x65 = (x61 &&& (7 : Int32)) → (((¬ x63 = 0) → (((¬ x61 = (118 : Int32)) → (((¬ x63 = (1 : Int32)) → (((¬ x63 = (2 : Int32)) → ok_R_third M62 x64 x65) ∧ ((x63 = (2 : Int32)) → ok_R_operand M62 x65 ∧ (∀ x92 : Int32, x92 = f_R_operand_v M62 x65 → ∀ M93 : Mem, M93 = f_R_operand_m M62 x65 → ok_R_reckons M93 x64 x92)))) ∧ ((x63 = (1 : Int32)) → ok_R_operand M62 x65 ∧ (∀ x95 : Int32, x95 = f_R_operand_v M62 x65 → ∀ M96 : Mem, M96 = f_R_operand_m M62 x65 → ok_R_setOperand M96 x64 x95)))) ∧ ((x61 = (118 : Int32)) → True))) ∧ ((x63 = 0) → ok_R_first M62 x64 x65)))) ∧ ((¬ (M58 0 22) = 0) → True))
set_option maxRecDepth 100000 in
set_option maxHeartbeats 4000000 in
theorem sp_R_step_j1 (M58 : Mem) (Q : Int32 → Mem → Prop) (hok : ok_R_step_j1 M58) (hQ : Q (f_R_step_j1_v M58) (f_R_step_j1_m M58)) : wp_R_step_j1 M58 Q := by
  unfold wp_R_step_j1
  unfold ok_R_step_j1 at hok
  unfold f_R_step_j1_v f_R_step_j1_m at hQ
  refine ⟨fun hc => ?_, fun hc => ?_⟩
  · simp only [if_pos hc] at hQ
    have hok := hok.1 hc
    intro x59 h_; subst h_
    have hok := hok _ rfl
    intro M60 h_; subst h_
    have hok := hok _ rfl
    refine sp_R_next _ _ hok.1 ?_
    have hok := hok.2 _ rfl _ rfl
    intro x63 h_; subst h_
    have hok := hok _ rfl
    intro x64 h_; subst h_
    have hok := hok _ rfl
    intro x65 h_; subst h_
    have hok := hok _ rfl
    refine ⟨fun hc => ?_, fun hc => ?_⟩
    · simp only [if_neg hc] at hQ
      have hok := hok.1 hc
      refine ⟨fun hc => ?_, fun hc => ?_⟩
      · simp only [if_neg hc] at hQ
        have hok := hok.1 hc
        refine ⟨fun hc => ?_, fun hc => ?_⟩
        · simp only [if_neg hc] at hQ
          have hok := hok.1 hc
          refine ⟨fun hc => ?_, fun hc => ?_⟩
          · simp only [if_neg hc] at hQ
            have hok := hok.1 hc
            refine sp_R_third _ _ _ _ hok ?_
            exact sp_R_step_j2 _ _ _ _ hQ
          · simp only [if_pos hc] at hQ
            have hok := hok.2 hc
            refine sp_R_operand _ _ _ hok.1 ?_
            have hok := hok.2 _ rfl _ rfl
            refine sp_R_reckons _ _ _ _ hok ?_
            exact sp_R_step_j2 _ _ _ _ hQ
        · simp only [if_pos hc] at hQ
          have hok := hok.2 hc
          refine sp_R_operand _ _ _ hok.1 ?_
          have hok := hok.2 _ rfl _ rfl
          refine sp_R_setOperand _ _ _ _ hok ?_
          exact sp_R_step_j2 _ _ _ _ hQ
      · simp only [if_pos hc] at hQ
        intro M98 h_; subst h_
        exact sp_R_step_j2 _ _ _ _ hQ
    · simp only [if_pos hc] at hQ
      have hok := hok.2 hc
      refine sp_R_first _ _ _ _ hok ?_
      exact sp_R_step_j2 _ _ _ _ hQ
  · simp only [if_neg hc] at hQ
    intro M100 h_; subst h_
    intro M101 h_; subst h_
    exact hQ
def f_R_step_l1_v (x1 : Int32) (M102 : Mem) (n : Nat) : Int32 → Int32 := Nat.rec (motive := fun _ => Int32 → Int32) (fun _ => 0) (fun _ K1_v x103 => (if ((x1 >>> (x103 &&& (31 : Int32))) &&& (1 : Int32)) = 0 then let x112 : Int32 := x103 + (1 : Int32); (K1_v x112) else (1 : Int32))) n
theorem f_R_step_l1_v_s (x1 : Int32) (M102 : Mem) (n : Nat) (x103 : Int32) : f_R_step_l1_v x1 M102 (n + 1) x103 = (let K1_v : Int32 → Int32 := f_R_step_l1_v x1 M102 n; (if ((x1 >>> (x103 &&& (31 : Int32))) &&& (1 : Int32)) = 0 then let x112 : Int32 := x103 + (1 : Int32); (K1_v x112) else (1 : Int32))) := rfl
def f_R_step_l1_m (x1 : Int32) (M102 : Mem) (n : Nat) : Int32 → Mem := Nat.rec (motive := fun _ => Int32 → Mem) (fun _ => (fun _ _ => 0)) (fun _ K1_m x103 => (if ((x1 >>> (x103 &&& (31 : Int32))) &&& (1 : Int32)) = 0 then let x112 : Int32 := x103 + (1 : Int32); (K1_m x112) else let M104 : Mem := mst M102 0 21 (0 : Int32); let M105 : Mem := mst M104 0 24 (0 : Int32); let M106 : Mem := mst M105 0 31 ((M105 0 31) &&& (((1 : Int32) <<< (x103 &&& (31 : Int32))) ^^^ (-1 : Int32))); let M107 : Mem := f_R_push_m M106 (M106 0 19); let M108 : Mem := mst M107 0 19 ((64 : Int32) + ((8 : Int32) * x103)); let M109 : Mem := mst M108 0 20 (5 : Int32); let M110 : Mem := mst M109 0 49 ((M109 0 49) + (1 : Int32)); let M111 : Mem := mst M110 0 48 ((M110 0 48) + (1 : Int32)); M111)) n
theorem f_R_step_l1_m_s (x1 : Int32) (M102 : Mem) (n : Nat) (x103 : Int32) : f_R_step_l1_m x1 M102 (n + 1) x103 = (let K1_m : Int32 → Mem := f_R_step_l1_m x1 M102 n; (if ((x1 >>> (x103 &&& (31 : Int32))) &&& (1 : Int32)) = 0 then let x112 : Int32 := x103 + (1 : Int32); (K1_m x112) else let M104 : Mem := mst M102 0 21 (0 : Int32); let M105 : Mem := mst M104 0 24 (0 : Int32); let M106 : Mem := mst M105 0 31 ((M105 0 31) &&& (((1 : Int32) <<< (x103 &&& (31 : Int32))) ^^^ (-1 : Int32))); let M107 : Mem := f_R_push_m M106 (M106 0 19); let M108 : Mem := mst M107 0 19 ((64 : Int32) + ((8 : Int32) * x103)); let M109 : Mem := mst M108 0 20 (5 : Int32); let M110 : Mem := mst M109 0 49 ((M109 0 49) + (1 : Int32)); let M111 : Mem := mst M110 0 48 ((M110 0 48) + (1 : Int32)); M111)) := rfl
def ok_R_step_l1 (x1 : Int32) (M102 : Mem) (n : Nat) : Int32 → Prop := Nat.rec (motive := fun _ => Int32 → Prop) (fun _ => False) (fun _ K1_ok x103 => (((¬ ((x1 >>> (x103 &&& (31 : Int32))) &&& (1 : Int32)) = 0) → ∀ M104 : Mem, M104 = mst M102 0 21 (0 : Int32) → ∀ M105 : Mem, M105 = mst M104 0 24 (0 : Int32) → ∀ M106 : Mem, M106 = mst M105 0 31 ((M105 0 31) &&& (((1 : Int32) <<< (x103 &&& (31 : Int32))) ^^^ (-1 : Int32))) → ok_R_push M106 (M106 0 19)) ∧ ((((x1 >>> (x103 &&& (31 : Int32))) &&& (1 : Int32)) = 0) → ∀ x112 : Int32, x112 = x103 + (1 : Int32) → K1_ok x112))) n
set_option maxRecDepth 100000 in
set_option maxHeartbeats 4000000 in
theorem sp_R_step_l1 (x1 : Int32) (M102 : Mem) {Q : Int32 → Mem → Prop} : ∀ (n : Nat) (x103 : Int32), ok_R_step_l1 x1 M102 n x103 → Q (f_R_step_l1_v x1 M102 n x103) (f_R_step_l1_m x1 M102 n x103) → wp_R_step_l1 x1 M102 Q n x103 := by
  intro n
  induction n with
  | zero => intro x103 hok; exact False.elim hok
  | succ n ih =>
    intro x103 hok hQ
    have hK1 := ih
    rw [f_R_step_l1_v_s, f_R_step_l1_m_s] at hQ
    refine ⟨fun hc => ?_, fun hc => ?_⟩
    · simp only [if_neg hc] at hQ
      have hok := hok.1 hc
      intro M104 h_; subst h_
      have hok := hok _ rfl
      intro M105 h_; subst h_
      have hok := hok _ rfl
      intro M106 h_; subst h_
      have hok := hok _ rfl
      refine sp_R_push _ _ _ hok ?_
      intro M108 h_; subst h_
      intro M109 h_; subst h_
      intro M110 h_; subst h_
      intro M111 h_; subst h_
      exact hQ
    · simp only [if_pos hc] at hQ
      have hok := hok.2 hc
      intro x112 h_; subst h_
      have hok := hok _ rfl
      exact hK1 _  hok hQ
def f_R_step_v (M0 : Mem) : Int32 := let x1 : Int32 := (((M0 0 32) &&& (M0 0 31)) &&& (31 : Int32)); let M2 : Mem := mst M0 0 20 (0 : Int32); (if x1 = 0 then (f_R_step_j1_v M2) else let M102 : Mem := mst M2 0 22 (0 : Int32); (if (M102 0 21) = 0 then (f_R_step_j1_v M102) else (f_R_step_l1_v x1 M102 33 (0 : Int32))))
def f_R_step_m (M0 : Mem) : Mem := let x1 : Int32 := (((M0 0 32) &&& (M0 0 31)) &&& (31 : Int32)); let M2 : Mem := mst M0 0 20 (0 : Int32); (if x1 = 0 then (f_R_step_j1_m M2) else let M102 : Mem := mst M2 0 22 (0 : Int32); (if (M102 0 21) = 0 then (f_R_step_j1_m M102) else (f_R_step_l1_m x1 M102 33 (0 : Int32))))
def ok_R_step (M0 : Mem) : Prop := ∀ x1 : Int32, x1 = (((M0 0 32) &&& (M0 0 31)) &&& (31 : Int32)) → ∀ M2 : Mem, M2 = mst M0 0 20 (0 : Int32) → (((x1 = 0) → ok_R_step_j1 M2) ∧ ((¬ x1 = 0) → ∀ M102 : Mem, M102 = mst M2 0 22 (0 : Int32) → ((((M102 0 21) = 0) → ok_R_step_j1 M102) ∧ ((¬ (M102 0 21) = 0) → ok_R_step_l1 x1 M102 33 (0 : Int32)))))
set_option maxRecDepth 100000 in
set_option maxHeartbeats 4000000 in
theorem sp_R_step (M0 : Mem) (Q : Int32 → Mem → Prop) (hok : ok_R_step M0) (hQ : Q (f_R_step_v M0) (f_R_step_m M0)) : wp_R_step M0 Q := by
  unfold wp_R_step
  unfold ok_R_step at hok
  unfold f_R_step_v f_R_step_m at hQ
  intro x1 h_; subst h_
  have hok := hok _ rfl
  intro M2 h_; subst h_
  have hok := hok _ rfl
  refine ⟨fun hc => ?_, fun hc => ?_⟩
  · simp only [if_pos hc] at hQ
    have hok := hok.1 hc
    exact sp_R_step_j1 _ _ hok hQ
  · simp only [if_neg hc] at hQ
    have hok := hok.2 hc
    intro M102 h_; subst h_
    have hok := hok _ rfl
    refine ⟨fun hc => ?_, fun hc => ?_⟩
    · simp only [if_pos hc] at hQ
      have hok := hok.1 hc
      exact sp_R_step_j1 _ _ hok hQ
    · simp only [if_neg hc] at hQ
      have hok := hok.2 hc
      exact ⟨_, sp_R_step_l1 _ _ _ _  hok hQ⟩
def f_R_isSignal_j1_v (x3 : Int32) : Int32 := x3
def ok_R_isSignal_j1 (x3 : Int32) : Prop := isB x3
set_option maxRecDepth 100000 in
set_option maxHeartbeats 4000000 in
theorem sp_R_isSignal_j1 (x3 : Int32) (Q : Int32 → Prop) (hok : ok_R_isSignal_j1 x3) (hQ : Q (f_R_isSignal_j1_v x3)) : wp_R_isSignal_j1 x3 Q := by
  unfold wp_R_isSignal_j1
  unfold ok_R_isSignal_j1 at hok
  unfold f_R_isSignal_j1_v at hQ
  refine ⟨hok, ?_⟩
  exact hQ
def f_R_isSignal_j2_v : Int32 := (f_R_isSignal_j1_v (1 : Int32))
def ok_R_isSignal_j2 : Prop := ok_R_isSignal_j1 (1 : Int32)
set_option maxRecDepth 100000 in
set_option maxHeartbeats 4000000 in
theorem sp_R_isSignal_j2 (Q : Int32 → Prop) (hok : ok_R_isSignal_j2 ) (hQ : Q (f_R_isSignal_j2_v )) : wp_R_isSignal_j2  Q := by
  unfold wp_R_isSignal_j2
  unfold ok_R_isSignal_j2 at hok
  unfold f_R_isSignal_j2_v at hQ
  exact sp_R_isSignal_j1 _ _ hok hQ
def f_R_isSignal_j6_v : Int32 := (f_R_isSignal_j1_v (0 : Int32))
def ok_R_isSignal_j6 : Prop := ok_R_isSignal_j1 (0 : Int32)
set_option maxRecDepth 100000 in
set_option maxHeartbeats 4000000 in
theorem sp_R_isSignal_j6 (Q : Int32 → Prop) (hok : ok_R_isSignal_j6 ) (hQ : Q (f_R_isSignal_j6_v )) : wp_R_isSignal_j6  Q := by
  unfold wp_R_isSignal_j6
  unfold ok_R_isSignal_j6 at hok
  unfold f_R_isSignal_j6_v at hQ
  exact sp_R_isSignal_j1 _ _ hok hQ
def f_R_isSignal_j5_v (M0 : Mem) (x1 : Int32) : Int32 := (if ((M0 0 34) &&& (8 : Int32)) ≤ 0 then (f_R_isSignal_j6_v) else (if x1 = 0 then (f_R_isSignal_j2_v) else (f_R_isSignal_j6_v)))
def ok_R_isSignal_j5 (M0 : Mem) (x1 : Int32) : Prop := (((((M0 0 34) &&& (8 : Int32)) ≤ 0) → ok_R_isSignal_j6) ∧ ((¬ ((M0 0 34) &&& (8 : Int32)) ≤ 0) → (((¬ x1 = 0) → ok_R_isSignal_j6) ∧ ((x1 = 0) → ok_R_isSignal_j2))))
set_option maxRecDepth 100000 in
set_option maxHeartbeats 4000000 in
theorem sp_R_isSignal_j5 (M0 : Mem) (x1 : Int32) (Q : Int32 → Prop) (hok : ok_R_isSignal_j5 M0 x1) (hQ : Q (f_R_isSignal_j5_v M0 x1)) : wp_R_isSignal_j5 M0 x1 Q := by
  unfold wp_R_isSignal_j5
  unfold ok_R_isSignal_j5 at hok
  unfold f_R_isSignal_j5_v at hQ
  refine ⟨fun hc => ?_, fun hc => ?_⟩
  · simp only [if_pos hc] at hQ
    have hok := hok.1 hc
    exact sp_R_isSignal_j6 _ hok hQ
  · simp only [if_neg hc] at hQ
    have hok := hok.2 hc
    refine ⟨fun hc => ?_, fun hc => ?_⟩
    · simp only [if_neg hc] at hQ
      have hok := hok.1 hc
      exact sp_R_isSignal_j6 _ hok hQ
    · simp only [if_pos hc] at hQ
      have hok := hok.2 hc
      exact sp_R_isSignal_j2 _ hok hQ
def f_R_isSignal_j4_v (M0 : Mem) (x1 : Int32) : Int32 := (if ((M0 0 34) &&& (16 : Int32)) ≤ 0 then (f_R_isSignal_j5_v M0 x1) else (if x1 = (1 : Int32) then (f_R_isSignal_j2_v) else (f_R_isSignal_j5_v M0 x1)))
def ok_R_isSignal_j4 (M0 : Mem) (x1 : Int32) : Prop := (((((M0 0 34) &&& (16 : Int32)) ≤ 0) → ok_R_isSignal_j5 M0 x1) ∧ ((¬ ((M0 0 34) &&& (16 : Int32)) ≤ 0) → (((x1 = (1 : Int32)) → ok_R_isSignal_j2) ∧ ((¬ x1 = (1 : Int32)) → ok_R_isSignal_j5 M0 x1))))
set_option maxRecDepth 100000 in
set_option maxHeartbeats 4000000 in
theorem sp_R_isSignal_j4 (M0 : Mem) (x1 : Int32) (Q : Int32 → Prop) (hok : ok_R_isSignal_j4 M0 x1) (hQ : Q (f_R_isSignal_j4_v M0 x1)) : wp_R_isSignal_j4 M0 x1 Q := by
  unfold wp_R_isSignal_j4
  unfold ok_R_isSignal_j4 at hok
  unfold f_R_isSignal_j4_v at hQ
  refine ⟨fun hc => ?_, fun hc => ?_⟩
  · simp only [if_pos hc] at hQ
    have hok := hok.1 hc
    exact sp_R_isSignal_j5 _ _ _ hok hQ
  · simp only [if_neg hc] at hQ
    have hok := hok.2 hc
    refine ⟨fun hc => ?_, fun hc => ?_⟩
    · simp only [if_pos hc] at hQ
      have hok := hok.1 hc
      exact sp_R_isSignal_j2 _ hok hQ
    · simp only [if_neg hc] at hQ
      have hok := hok.2 hc
      exact sp_R_isSignal_j5 _ _ _ hok hQ
def f_R_isSignal_j3_v (M0 : Mem) (x1 : Int32) : Int32 := (if ((M0 0 34) &&& (32 : Int32)) ≤ 0 then (f_R_isSignal_j4_v M0 x1) else (if x1 = (2 : Int32) then (f_R_isSignal_j2_v) else (f_R_isSignal_j4_v M0 x1)))
def ok_R_isSignal_j3 (M0 : Mem) (x1 : Int32) : Prop := (((((M0 0 34) &&& (32 : Int32)) ≤ 0) → ok_R_isSignal_j4 M0 x1) ∧ ((¬ ((M0 0 34) &&& (32 : Int32)) ≤ 0) → (((x1 = (2 : Int32)) → ok_R_isSignal_j2) ∧ ((¬ x1 = (2 : Int32)) → ok_R_isSignal_j4 M0 x1))))
set_option maxRecDepth 100000 in
set_option maxHeartbeats 4000000 in
theorem sp_R_isSignal_j3 (M0 : Mem) (x1 : Int32) (Q : Int32 → Prop) (hok : ok_R_isSignal_j3 M0 x1) (hQ : Q (f_R_isSignal_j3_v M0 x1)) : wp_R_isSignal_j3 M0 x1 Q := by
  unfold wp_R_isSignal_j3
  unfold ok_R_isSignal_j3 at hok
  unfold f_R_isSignal_j3_v at hQ
  refine ⟨fun hc => ?_, fun hc => ?_⟩
  · simp only [if_pos hc] at hQ
    have hok := hok.1 hc
    exact sp_R_isSignal_j4 _ _ _ hok hQ
  · simp only [if_neg hc] at hQ
    have hok := hok.2 hc
    refine ⟨fun hc => ?_, fun hc => ?_⟩
    · simp only [if_pos hc] at hQ
      have hok := hok.1 hc
      exact sp_R_isSignal_j2 _ hok hQ
    · simp only [if_neg hc] at hQ
      have hok := hok.2 hc
      exact sp_R_isSignal_j4 _ _ _ hok hQ
def f_R_isSignal_v (M0 : Mem) : Int32 := (if ((M0 0 33) &&& (128 : Int32)) = 0 then (0 : Int32) else let x1 : Int32 := f_R_state_v M0; (if ((M0 0 34) &&& (64 : Int32)) ≤ 0 then (f_R_isSignal_j3_v M0 x1) else (if (M0 0 37) = (M0 0 38) then (f_R_isSignal_j2_v) else (f_R_isSignal_j3_v M0 x1))))
def ok_R_isSignal (M0 : Mem) : Prop := (((¬ ((M0 0 33) &&& (128 : Int32)) = 0) → ∀ x1 : Int32, x1 = f_R_state_v M0 → (((((M0 0 34) &&& (64 : Int32)) ≤ 0) → ok_R_isSignal_j3 M0 x1) ∧ ((¬ ((M0 0 34) &&& (64 : Int32)) ≤ 0) → ((((M0 0 37) = (M0 0 38)) → ok_R_isSignal_j2) ∧ ((¬ (M0 0 37) = (M0 0 38)) → ok_R_isSignal_j3 M0 x1))))) ∧ ((((M0 0 33) &&& (128 : Int32)) = 0) → True))
set_option maxRecDepth 100000 in
set_option maxHeartbeats 4000000 in
theorem sp_R_isSignal (M0 : Mem) (Q : Int32 → Prop) (hok : ok_R_isSignal M0) (hQ : Q (f_R_isSignal_v M0)) : wp_R_isSignal M0 Q := by
  unfold wp_R_isSignal
  unfold ok_R_isSignal at hok
  unfold f_R_isSignal_v at hQ
  refine ⟨fun hc => ?_, fun hc => ?_⟩
  · simp only [if_neg hc] at hQ
    have hok := hok.1 hc
    refine sp_R_state _ _ ?_
    have hok := hok _ rfl
    refine ⟨fun hc => ?_, fun hc => ?_⟩
    · simp only [if_pos hc] at hQ
      have hok := hok.1 hc
      exact sp_R_isSignal_j3 _ _ _ hok hQ
    · simp only [if_neg hc] at hQ
      have hok := hok.2 hc
      refine ⟨fun hc => ?_, fun hc => ?_⟩
      · simp only [if_pos hc] at hQ
        have hok := hok.1 hc
        exact sp_R_isSignal_j2 _ hok hQ
      · simp only [if_neg hc] at hQ
        have hok := hok.2 hc
        exact sp_R_isSignal_j3 _ _ _ hok hQ
  · simp only [if_pos hc] at hQ
    exact hQ
def f_R_cycle_j4_m (x172 : Int32) (M177 : Mem) : Mem := let M178 : Mem := mst M177 0 46 x172; let M179 : Mem := mst M178 0 47 ((M178 0 47) + (1 : Int32)); M179
def ok_R_cycle_j4 (x172 : Int32) (M177 : Mem) : Prop := isB x172
set_option maxRecDepth 100000 in
set_option maxHeartbeats 4000000 in
theorem sp_R_cycle_j4 (x172 : Int32) (M177 : Mem) (Q : Mem → Prop) (hok : ok_R_cycle_j4 x172 M177) (hQ : Q (f_R_cycle_j4_m x172 M177)) : wp_R_cycle_j4 x172 M177 Q := by
  unfold wp_R_cycle_j4
  unfold ok_R_cycle_j4 at hok
  unfold f_R_cycle_j4_m at hQ
  refine ⟨hok, ?_⟩
  intro M178 h_; subst h_
  intro M179 h_; subst h_
  exact hQ
def f_R_cycle_j3_m (M171 : Mem) : Mem := let x172 : Int32 := f_R_isSignal_v M171; (if x172 = 0 then (f_R_cycle_j4_m x172 M171) else (if (M171 0 46) = 0 then let M180 : Mem := mst M171 0 31 ((M171 0 31) ||| (2 : Int32)); (f_R_cycle_j4_m x172 M180) else (f_R_cycle_j4_m x172 M171)))
def ok_R_cycle_j3 (M171 : Mem) : Prop := ok_R_isSignal M171 ∧ (∀ x172 : Int32, x172 = f_R_isSignal_v M171 → (((x172 = 0) → ok_R_cycle_j4 x172 M171) ∧ ((¬ x172 = 0) → (((¬ (M171 0 46) = 0) → ok_R_cycle_j4 x172 M171) ∧ (((M171 0 46) = 0) → ∀ M180 : Mem, M180 = mst M171 0 31 ((M171 0 31) ||| (2 : Int32)) → ok_R_cycle_j4 x172 M180)))))
set_option maxRecDepth 100000 in
set_option maxHeartbeats 4000000 in
theorem sp_R_cycle_j3 (M171 : Mem) (Q : Mem → Prop) (hok : ok_R_cycle_j3 M171) (hQ : Q (f_R_cycle_j3_m M171)) : wp_R_cycle_j3 M171 Q := by
  unfold wp_R_cycle_j3
  unfold ok_R_cycle_j3 at hok
  unfold f_R_cycle_j3_m at hQ
  refine sp_R_isSignal _ _ hok.1 ?_
  have hok := hok.2 _ rfl
  refine ⟨fun hc => ?_, fun hc => ?_⟩
  · simp only [if_pos hc] at hQ
    have hok := hok.1 hc
    exact sp_R_cycle_j4 _ _ _ hok hQ
  · simp only [if_neg hc] at hQ
    have hok := hok.2 hc
    refine ⟨fun hc => ?_, fun hc => ?_⟩
    · simp only [if_neg hc] at hQ
      have hok := hok.1 hc
      exact sp_R_cycle_j4 _ _ _ hok hQ
    · simp only [if_pos hc] at hQ
      have hok := hok.2 hc
      intro M180 h_; subst h_
      have hok := hok _ rfl
      exact sp_R_cycle_j4 _ _ _ hok hQ
def f_R_cycle_j5_m (M184 : Mem) (x189 : Int32) : Mem := let M190 : Mem := mst M184 0 37 x189; (if (M190 0 37) = (144 : Int32) then let M191 : Mem := mst M190 0 31 ((M190 0 31) ||| (1 : Int32)); let M192 : Mem := mst M191 0 50 ((M191 0 50) + (1 : Int32)); (f_R_cycle_j3_m M192) else (f_R_cycle_j3_m M190))
def ok_R_cycle_j5 (M184 : Mem) (x189 : Int32) : Prop := ∀ M190 : Mem, M190 = mst M184 0 37 x189 → (((¬ (M190 0 37) = (144 : Int32)) → ok_R_cycle_j3 M190) ∧ (((M190 0 37) = (144 : Int32)) → ∀ M191 : Mem, M191 = mst M190 0 31 ((M190 0 31) ||| (1 : Int32)) → ∀ M192 : Mem, M192 = mst M191 0 50 ((M191 0 50) + (1 : Int32)) → ok_R_cycle_j3 M192))
set_option maxRecDepth 100000 in
set_option maxHeartbeats 4000000 in
theorem sp_R_cycle_j5 (M184 : Mem) (x189 : Int32) (Q : Mem → Prop) (hok : ok_R_cycle_j5 M184 x189) (hQ : Q (f_R_cycle_j5_m M184 x189)) : wp_R_cycle_j5 M184 x189 Q := by
  unfold wp_R_cycle_j5
  unfold ok_R_cycle_j5 at hok
  unfold f_R_cycle_j5_m at hQ
  intro M190 h_; subst h_
  have hok := hok _ rfl
  refine ⟨fun hc => ?_, fun hc => ?_⟩
  · simp only [if_neg hc] at hQ
    have hok := hok.1 hc
    exact sp_R_cycle_j3 _ _ hok hQ
  · simp only [if_pos hc] at hQ
    have hok := hok.2 hc
    intro M191 h_; subst h_
    have hok := hok _ rfl
    intro M192 h_; subst h_
    have hok := hok _ rfl
    exact sp_R_cycle_j3 _ _ hok hQ
def f_R_cycle_j2_m (M148 : Mem) : Mem := (if ((M148 0 33) &&& (128 : Int32)) ≤ 0 then let M181 : Mem := mst M148 0 45 (0 : Int32); let M182 : Mem := mst M181 0 37 (0 : Int32); (f_R_cycle_j3_m M182) else let M183 : Mem := mst M148 0 45 ((M148 0 45) + (1 : Int32)); (if (M183 0 45) = (114 : Int32) then let M184 : Mem := mst M183 0 45 (0 : Int32); (if (M184 0 37) = (153 : Int32) then (f_R_cycle_j5_m M184 (0 : Int32)) else (f_R_cycle_j5_m M184 ((M184 0 37) + (1 : Int32)))) else (f_R_cycle_j3_m M183)))
def ok_R_cycle_j2 (M148 : Mem) : Prop := (((((M148 0 33) &&& (128 : Int32)) ≤ 0) → ∀ M181 : Mem, M181 = mst M148 0 45 (0 : Int32) → ∀ M182 : Mem, M182 = mst M181 0 37 (0 : Int32) → ok_R_cycle_j3 M182) ∧ ((¬ ((M148 0 33) &&& (128 : Int32)) ≤ 0) → ∀ M183 : Mem, M183 = mst M148 0 45 ((M148 0 45) + (1 : Int32)) → (((¬ (M183 0 45) = (114 : Int32)) → ok_R_cycle_j3 M183) ∧ (((M183 0 45) = (114 : Int32)) → ∀ M184 : Mem, M184 = mst M183 0 45 (0 : Int32) → (((¬ (M184 0 37) = (153 : Int32)) → ok_R_cycle_j5 M184 ((M184 0 37) + (1 : Int32))) ∧ (((M184 0 37) = (153 : Int32)) → ok_R_cycle_j5 M184 (0 : Int32)))))))
set_option maxRecDepth 100000 in
set_option maxHeartbeats 4000000 in
theorem sp_R_cycle_j2 (M148 : Mem) (Q : Mem → Prop) (hok : ok_R_cycle_j2 M148) (hQ : Q (f_R_cycle_j2_m M148)) : wp_R_cycle_j2 M148 Q := by
  unfold wp_R_cycle_j2
  unfold ok_R_cycle_j2 at hok
  unfold f_R_cycle_j2_m at hQ
  refine ⟨fun hc => ?_, fun hc => ?_⟩
  · simp only [if_pos hc] at hQ
    have hok := hok.1 hc
    intro M181 h_; subst h_
    have hok := hok _ rfl
    intro M182 h_; subst h_
    have hok := hok _ rfl
    exact sp_R_cycle_j3 _ _ hok hQ
  · simp only [if_neg hc] at hQ
    have hok := hok.2 hc
    intro M183 h_; subst h_
    have hok := hok _ rfl
    refine ⟨fun hc => ?_, fun hc => ?_⟩
    · simp only [if_neg hc] at hQ
      have hok := hok.1 hc
      exact sp_R_cycle_j3 _ _ hok hQ
    · simp only [if_pos hc] at hQ
      have hok := hok.2 hc
      intro M184 h_; subst h_
      have hok := hok _ rfl
      refine ⟨fun hc => ?_, fun hc => ?_⟩
      · simp only [if_neg hc] at hQ
        have hok := hok.1 hc
        exact sp_R_cycle_j5 _ _ _ hok hQ
      · simp only [if_pos hc] at hQ
        have hok := hok.2 hc
        exact sp_R_cycle_j5 _ _ _ hok hQ
def f_R_cycle_j1_m (M1 : Mem) (x99 : Int32) : Mem := (if ((M1 0 30) &&& (4 : Int32)) ≤ 0 then (f_R_cycle_j2_m M1) else (if ((M1 0 27) - (M1 0 27) / x99 * x99) = 0 then (if (M1 0 28) = (255 : Int32) then let M194 : Mem := mst M1 0 28 (M1 0 29); let M195 : Mem := mst M194 0 31 ((M194 0 31) ||| (4 : Int32)); (f_R_cycle_j2_m M195) else let M193 : Mem := mst M1 0 28 ((M1 0 28) + (1 : Int32)); (f_R_cycle_j2_m M193)) else (f_R_cycle_j2_m M1)))
def ok_R_cycle_j1 (M1 : Mem) (x99 : Int32) : Prop := (((((M1 0 30) &&& (4 : Int32)) ≤ 0) → ok_R_cycle_j2 M1) ∧ ((¬ ((M1 0 30) &&& (4 : Int32)) ≤ 0) → (¬ x99 = 0) ∧ ((((¬ ((M1 0 27) - (M1 0 27) / x99 * x99) = 0) → ok_R_cycle_j2 M1) ∧ ((((M1 0 27) - (M1 0 27) / x99 * x99) = 0) → (((¬ (M1 0 28) = (255 : Int32)) → ∀ M193 : Mem, M193 = mst M1 0 28 ((M1 0 28) + (1 : Int32)) → ok_R_cycle_j2 M193) ∧ (((M1 0 28) = (255 : Int32)) → ∀ M194 : Mem, M194 = mst M1 0 28 (M1 0 29) → ∀ M195 : Mem, M195 = mst M194 0 31 ((M194 0 31) ||| (4 : Int32)) → ok_R_cycle_j2 M195)))))))
set_option maxRecDepth 100000 in
set_option maxHeartbeats 4000000 in
theorem sp_R_cycle_j1 (M1 : Mem) (x99 : Int32) (Q : Mem → Prop) (hok : ok_R_cycle_j1 M1 x99) (hQ : Q (f_R_cycle_j1_m M1 x99)) : wp_R_cycle_j1 M1 x99 Q := by
  unfold wp_R_cycle_j1
  unfold ok_R_cycle_j1 at hok
  unfold f_R_cycle_j1_m at hQ
  refine ⟨fun hc => ?_, fun hc => ?_⟩
  · simp only [if_pos hc] at hQ
    have hok := hok.1 hc
    exact sp_R_cycle_j2 _ _ hok hQ
  · simp only [if_neg hc] at hQ
    have hok := hok.2 hc
    refine ⟨hok.1, ?_⟩
    have hok := hok.2
    refine ⟨fun hc => ?_, fun hc => ?_⟩
    · simp only [if_neg hc] at hQ
      have hok := hok.1 hc
      exact sp_R_cycle_j2 _ _ hok hQ
    · simp only [if_pos hc] at hQ
      have hok := hok.2 hc
      refine ⟨fun hc => ?_, fun hc => ?_⟩
      · simp only [if_neg hc] at hQ
        have hok := hok.1 hc
        intro M193 h_; subst h_
        have hok := hok _ rfl
        exact sp_R_cycle_j2 _ _ hok hQ
      · simp only [if_pos hc] at hQ
        have hok := hok.2 hc
        intro M194 h_; subst h_
        have hok := hok _ rfl
        intro M195 h_; subst h_
        have hok := hok _ rfl
        exact sp_R_cycle_j2 _ _ hok hQ
def f_R_cycle_m (M0 : Mem) : Mem := let M1 : Mem := mst M0 0 27 (((M0 0 27) + (1 : Int32)) &&& (65535 : Int32)); (if ((M1 0 30) &&& (3 : Int32)) = 0 then (f_R_cycle_j1_m M1 (256 : Int32)) else (if ((M1 0 30) &&& (3 : Int32)) = (1 : Int32) then (f_R_cycle_j1_m M1 (4 : Int32)) else (if ((M1 0 30) &&& (3 : Int32)) = (2 : Int32) then (f_R_cycle_j1_m M1 (16 : Int32)) else (f_R_cycle_j1_m M1 (64 : Int32)))))
def ok_R_cycle (M0 : Mem) : Prop := ∀ M1 : Mem, M1 = mst M0 0 27 (((M0 0 27) + (1 : Int32)) &&& (65535 : Int32)) → (((¬ ((M1 0 30) &&& (3 : Int32)) = 0) → (((¬ ((M1 0 30) &&& (3 : Int32)) = (1 : Int32)) → (((¬ ((M1 0 30) &&& (3 : Int32)) = (2 : Int32)) → ok_R_cycle_j1 M1 (64 : Int32)) ∧ ((((M1 0 30) &&& (3 : Int32)) = (2 : Int32)) → ok_R_cycle_j1 M1 (16 : Int32)))) ∧ ((((M1 0 30) &&& (3 : Int32)) = (1 : Int32)) → ok_R_cycle_j1 M1 (4 : Int32)))) ∧ ((((M1 0 30) &&& (3 : Int32)) = 0) → ok_R_cycle_j1 M1 (256 : Int32)))
set_option maxRecDepth 100000 in
set_option maxHeartbeats 4000000 in
theorem sp_R_cycle (M0 : Mem) (Q : Mem → Prop) (hok : ok_R_cycle M0) (hQ : Q (f_R_cycle_m M0)) : wp_R_cycle M0 Q := by
  unfold wp_R_cycle
  unfold ok_R_cycle at hok
  unfold f_R_cycle_m at hQ
  intro M1 h_; subst h_
  have hok := hok _ rfl
  refine ⟨fun hc => ?_, fun hc => ?_⟩
  · simp only [if_neg hc] at hQ
    have hok := hok.1 hc
    refine ⟨fun hc => ?_, fun hc => ?_⟩
    · simp only [if_neg hc] at hQ
      have hok := hok.1 hc
      refine ⟨fun hc => ?_, fun hc => ?_⟩
      · simp only [if_neg hc] at hQ
        have hok := hok.1 hc
        exact sp_R_cycle_j1 _ _ _ hok hQ
      · simp only [if_pos hc] at hQ
        have hok := hok.2 hc
        exact sp_R_cycle_j1 _ _ _ hok hQ
    · simp only [if_pos hc] at hQ
      have hok := hok.2 hc
      exact sp_R_cycle_j1 _ _ _ hok hQ
  · simp only [if_pos hc] at hQ
    have hok := hok.2 hc
    exact sp_R_cycle_j1 _ _ _ hok hQ
def f_R_rom_j2_v (M58 : Mem) : Int32 := (0 : Int32)
def f_R_rom_j2_m (M58 : Mem) : Mem := M58
set_option maxRecDepth 100000 in
set_option maxHeartbeats 4000000 in
theorem sp_R_rom_j2 (M58 : Mem) (Q : Int32 → Mem → Prop) (hQ : Q (f_R_rom_j2_v M58) (f_R_rom_j2_m M58)) : wp_R_rom_j2 M58 Q := by
  unfold wp_R_rom_j2
  unfold f_R_rom_j2_v f_R_rom_j2_m at hQ
  exact hQ
def f_R_rom_l1_v (a1 : Int32) (a2 : Int32) (a3 : Int32) (a4 : Int64) (n : Nat) : Int32 → Mem → Int32 := Nat.rec (motive := fun _ => Int32 → Mem → Int32) (fun _ _ => 0) (fun _ K1_v x70 M71 => (if a3 ≤ x70 then a3 else let M72 : Mem := mst M71 1 (((((1024 : Int32) * a1) + a2) + x70)).toNatClampNeg (((a4.toUInt64 >>> (((8 : Int32) * x70).toInt64.toUInt64 &&& Int64.toUInt64 63)).toInt64 &&& (255 : Int64)).toInt32); let x73 : Int32 := x70 + (1 : Int32); (K1_v x73 M72))) n
theorem f_R_rom_l1_v_s (a1 : Int32) (a2 : Int32) (a3 : Int32) (a4 : Int64) (n : Nat) (x70 : Int32) (M71 : Mem) : f_R_rom_l1_v a1 a2 a3 a4 (n + 1) x70 M71 = (let K1_v : Int32 → Mem → Int32 := f_R_rom_l1_v a1 a2 a3 a4 n; (if a3 ≤ x70 then a3 else let M72 : Mem := mst M71 1 (((((1024 : Int32) * a1) + a2) + x70)).toNatClampNeg (((a4.toUInt64 >>> (((8 : Int32) * x70).toInt64.toUInt64 &&& Int64.toUInt64 63)).toInt64 &&& (255 : Int64)).toInt32); let x73 : Int32 := x70 + (1 : Int32); (K1_v x73 M72))) := rfl
def f_R_rom_l1_m (a1 : Int32) (a2 : Int32) (a3 : Int32) (a4 : Int64) (n : Nat) : Int32 → Mem → Mem := Nat.rec (motive := fun _ => Int32 → Mem → Mem) (fun _ _ => (fun _ _ => 0)) (fun _ K1_m x70 M71 => (if a3 ≤ x70 then M71 else let M72 : Mem := mst M71 1 (((((1024 : Int32) * a1) + a2) + x70)).toNatClampNeg (((a4.toUInt64 >>> (((8 : Int32) * x70).toInt64.toUInt64 &&& Int64.toUInt64 63)).toInt64 &&& (255 : Int64)).toInt32); let x73 : Int32 := x70 + (1 : Int32); (K1_m x73 M72))) n
theorem f_R_rom_l1_m_s (a1 : Int32) (a2 : Int32) (a3 : Int32) (a4 : Int64) (n : Nat) (x70 : Int32) (M71 : Mem) : f_R_rom_l1_m a1 a2 a3 a4 (n + 1) x70 M71 = (let K1_m : Int32 → Mem → Mem := f_R_rom_l1_m a1 a2 a3 a4 n; (if a3 ≤ x70 then M71 else let M72 : Mem := mst M71 1 (((((1024 : Int32) * a1) + a2) + x70)).toNatClampNeg (((a4.toUInt64 >>> (((8 : Int32) * x70).toInt64.toUInt64 &&& Int64.toUInt64 63)).toInt64 &&& (255 : Int64)).toInt32); let x73 : Int32 := x70 + (1 : Int32); (K1_m x73 M72))) := rfl
def ok_R_rom_l1 (a1 : Int32) (a2 : Int32) (a3 : Int32) (a4 : Int64) (n : Nat) : Int32 → Mem → Prop := Nat.rec (motive := fun _ => Int32 → Mem → Prop) (fun _ _ => False) (fun _ K1_ok x70 M71 => (((a3 ≤ x70) → True) ∧ ((¬ a3 ≤ x70) → vp_in ((((1024 : Int32) * a1) + a2) + x70) 8192 ∧ (∀ M72 : Mem, M72 = mst M71 1 (((((1024 : Int32) * a1) + a2) + x70)).toNatClampNeg (((a4.toUInt64 >>> (((8 : Int32) * x70).toInt64.toUInt64 &&& Int64.toUInt64 63)).toInt64 &&& (255 : Int64)).toInt32) → ∀ x73 : Int32, x73 = x70 + (1 : Int32) → K1_ok x73 M72)))) n
set_option maxRecDepth 100000 in
set_option maxHeartbeats 4000000 in
theorem sp_R_rom_l1 (a1 : Int32) (a2 : Int32) (a3 : Int32) (a4 : Int64) {Q : Int32 → Mem → Prop} : ∀ (n : Nat) (x70 : Int32) (M71 : Mem), ok_R_rom_l1 a1 a2 a3 a4 n x70 M71 → Q (f_R_rom_l1_v a1 a2 a3 a4 n x70 M71) (f_R_rom_l1_m a1 a2 a3 a4 n x70 M71) → wp_R_rom_l1 a1 a2 a3 a4 Q n x70 M71 := by
  intro n
  induction n with
  | zero => intro x70 M71 hok; exact False.elim hok
  | succ n ih =>
    intro x70 M71 hok hQ
    have hK1 := ih
    rw [f_R_rom_l1_v_s, f_R_rom_l1_m_s] at hQ
    refine ⟨fun hc => ?_, fun hc => ?_⟩
    · simp only [if_pos hc] at hQ
      exact hQ
    · simp only [if_neg hc] at hQ
      have hok := hok.2 hc
      refine ⟨hok.1, ?_⟩
      have hok := hok.2
      intro M72 h_; subst h_
      have hok := hok _ rfl
      intro x73 h_; subst h_
      have hok := hok _ rfl
      exact hK1 _ _  hok hQ
def f_R_rom_j3_v (a1 : Int32) (a2 : Int32) (a3 : Int32) (a4 : Int64) (M41 : Mem) (x67 : Int32) : Int32 := let x68 : Int32 := f_R_fails_v M41 x67 (2 : Int32); let M69 : Mem := f_R_fails_m M41 x67 (2 : Int32); (if x68 = 0 then (f_R_rom_l1_v a1 a2 a3 a4 9 (0 : Int32) M69) else (f_R_rom_j2_v M69))
def f_R_rom_j3_m (a1 : Int32) (a2 : Int32) (a3 : Int32) (a4 : Int64) (M41 : Mem) (x67 : Int32) : Mem := let x68 : Int32 := f_R_fails_v M41 x67 (2 : Int32); let M69 : Mem := f_R_fails_m M41 x67 (2 : Int32); (if x68 = 0 then (f_R_rom_l1_m a1 a2 a3 a4 9 (0 : Int32) M69) else (f_R_rom_j2_m M69))
def ok_R_rom_j3 (a1 : Int32) (a2 : Int32) (a3 : Int32) (a4 : Int64) (M41 : Mem) (x67 : Int32) : Prop := ok_R_fails M41 x67 (2 : Int32) ∧ (∀ x68 : Int32, x68 = f_R_fails_v M41 x67 (2 : Int32) → ∀ M69 : Mem, M69 = f_R_fails_m M41 x67 (2 : Int32) → (((x68 = 0) → ok_R_rom_l1 a1 a2 a3 a4 9 (0 : Int32) M69) ∧ ((¬ x68 = 0) → True)))
set_option maxRecDepth 100000 in
set_option maxHeartbeats 4000000 in
theorem sp_R_rom_j3 (a1 : Int32) (a2 : Int32) (a3 : Int32) (a4 : Int64) (M41 : Mem) (x67 : Int32) (Q : Int32 → Mem → Prop) (hok : ok_R_rom_j3 a1 a2 a3 a4 M41 x67) (hQ : Q (f_R_rom_j3_v a1 a2 a3 a4 M41 x67) (f_R_rom_j3_m a1 a2 a3 a4 M41 x67)) : wp_R_rom_j3 a1 a2 a3 a4 M41 x67 Q := by
  unfold wp_R_rom_j3
  unfold ok_R_rom_j3 at hok
  unfold f_R_rom_j3_v f_R_rom_j3_m at hQ
  refine sp_R_fails _ _ _ _ hok.1 ?_
  have hok := hok.2 _ rfl _ rfl
  refine ⟨fun hc => ?_, fun hc => ?_⟩
  · simp only [if_pos hc] at hQ
    have hok := hok.1 hc
    exact ⟨_, sp_R_rom_l1 _ _ _ _ _ _ _  hok hQ⟩
  · simp only [if_neg hc] at hQ
    exact sp_R_rom_j2 _ _ hQ
def f_R_rom_j1_v (a1 : Int32) (a2 : Int32) (a3 : Int32) (a4 : Int64) (M1 : Mem) (x39 : Int32) : Int32 := let x40 : Int32 := f_R_fails_v M1 x39 (1 : Int32); let M41 : Mem := f_R_fails_m M1 x39 (1 : Int32); (if x40 = 0 then let x59 : Int32 := f_R_in_v M41 a2 (0 : Int32) ((1024 : Int32) - a3); (if x59 = 0 then (f_R_rom_j3_v a1 a2 a3 a4 M41 (1 : Int32)) else (f_R_rom_j3_v a1 a2 a3 a4 M41 (0 : Int32))) else (f_R_rom_j2_v M41))
def f_R_rom_j1_m (a1 : Int32) (a2 : Int32) (a3 : Int32) (a4 : Int64) (M1 : Mem) (x39 : Int32) : Mem := let x40 : Int32 := f_R_fails_v M1 x39 (1 : Int32); let M41 : Mem := f_R_fails_m M1 x39 (1 : Int32); (if x40 = 0 then let x59 : Int32 := f_R_in_v M41 a2 (0 : Int32) ((1024 : Int32) - a3); (if x59 = 0 then (f_R_rom_j3_m a1 a2 a3 a4 M41 (1 : Int32)) else (f_R_rom_j3_m a1 a2 a3 a4 M41 (0 : Int32))) else (f_R_rom_j2_m M41))
def ok_R_rom_j1 (a1 : Int32) (a2 : Int32) (a3 : Int32) (a4 : Int64) (M1 : Mem) (x39 : Int32) : Prop := ok_R_fails M1 x39 (1 : Int32) ∧ (∀ x40 : Int32, x40 = f_R_fails_v M1 x39 (1 : Int32) → ∀ M41 : Mem, M41 = f_R_fails_m M1 x39 (1 : Int32) → (((¬ x40 = 0) → True) ∧ ((x40 = 0) → ok_R_in M41 a2 (0 : Int32) ((1024 : Int32) - a3) ∧ (∀ x59 : Int32, x59 = f_R_in_v M41 a2 (0 : Int32) ((1024 : Int32) - a3) → (((¬ x59 = 0) → ok_R_rom_j3 a1 a2 a3 a4 M41 (0 : Int32)) ∧ ((x59 = 0) → ok_R_rom_j3 a1 a2 a3 a4 M41 (1 : Int32)))))))
set_option maxRecDepth 100000 in
set_option maxHeartbeats 4000000 in
theorem sp_R_rom_j1 (a1 : Int32) (a2 : Int32) (a3 : Int32) (a4 : Int64) (M1 : Mem) (x39 : Int32) (Q : Int32 → Mem → Prop) (hok : ok_R_rom_j1 a1 a2 a3 a4 M1 x39) (hQ : Q (f_R_rom_j1_v a1 a2 a3 a4 M1 x39) (f_R_rom_j1_m a1 a2 a3 a4 M1 x39)) : wp_R_rom_j1 a1 a2 a3 a4 M1 x39 Q := by
  unfold wp_R_rom_j1
  unfold ok_R_rom_j1 at hok
  unfold f_R_rom_j1_v f_R_rom_j1_m at hQ
  refine sp_R_fails _ _ _ _ hok.1 ?_
  have hok := hok.2 _ rfl _ rfl
  refine ⟨fun hc => ?_, fun hc => ?_⟩
  · simp only [if_neg hc] at hQ
    exact sp_R_rom_j2 _ _ hQ
  · simp only [if_pos hc] at hQ
    have hok := hok.2 hc
    refine sp_R_in _ _ _ _ _ hok.1 ?_
    have hok := hok.2 _ rfl
    refine ⟨fun hc => ?_, fun hc => ?_⟩
    · simp only [if_neg hc] at hQ
      have hok := hok.1 hc
      exact sp_R_rom_j3 _ _ _ _ _ _ _ hok hQ
    · simp only [if_pos hc] at hQ
      have hok := hok.2 hc
      exact sp_R_rom_j3 _ _ _ _ _ _ _ hok hQ
def f_R_rom_j4_v (a1 : Int32) (a2 : Int32) (a3 : Int32) (a4 : Int64) (M1 : Mem) : Int32 := (f_R_rom_j1_v a1 a2 a3 a4 M1 (1 : Int32))
def f_R_rom_j4_m (a1 : Int32) (a2 : Int32) (a3 : Int32) (a4 : Int64) (M1 : Mem) : Mem := (f_R_rom_j1_m a1 a2 a3 a4 M1 (1 : Int32))
def ok_R_rom_j4 (a1 : Int32) (a2 : Int32) (a3 : Int32) (a4 : Int64) (M1 : Mem) : Prop := ok_R_rom_j1 a1 a2 a3 a4 M1 (1 : Int32)
set_option maxRecDepth 100000 in
set_option maxHeartbeats 4000000 in
theorem sp_R_rom_j4 (a1 : Int32) (a2 : Int32) (a3 : Int32) (a4 : Int64) (M1 : Mem) (Q : Int32 → Mem → Prop) (hok : ok_R_rom_j4 a1 a2 a3 a4 M1) (hQ : Q (f_R_rom_j4_v a1 a2 a3 a4 M1) (f_R_rom_j4_m a1 a2 a3 a4 M1)) : wp_R_rom_j4 a1 a2 a3 a4 M1 Q := by
  unfold wp_R_rom_j4
  unfold ok_R_rom_j4 at hok
  unfold f_R_rom_j4_v f_R_rom_j4_m at hQ
  exact sp_R_rom_j1 _ _ _ _ _ _ _ hok hQ
def f_R_rom_v (M0 : Mem) (a1 : Int32) (a2 : Int32) (a3 : Int32) (a4 : Int64) : Int32 := let M1 : Mem := mst M0 0 0 (0 : Int32); let x2 : Int32 := f_R_in_v M1 a3 (1 : Int32) (8 : Int32); (if x2 = 0 then (f_R_rom_j4_v a1 a2 a3 a4 M1) else let x74 : Int32 := f_R_in_v M1 a1 (0 : Int32) (7 : Int32); (if x74 = 0 then (f_R_rom_j4_v a1 a2 a3 a4 M1) else (f_R_rom_j1_v a1 a2 a3 a4 M1 (0 : Int32))))
def f_R_rom_m (M0 : Mem) (a1 : Int32) (a2 : Int32) (a3 : Int32) (a4 : Int64) : Mem := let M1 : Mem := mst M0 0 0 (0 : Int32); let x2 : Int32 := f_R_in_v M1 a3 (1 : Int32) (8 : Int32); (if x2 = 0 then (f_R_rom_j4_m a1 a2 a3 a4 M1) else let x74 : Int32 := f_R_in_v M1 a1 (0 : Int32) (7 : Int32); (if x74 = 0 then (f_R_rom_j4_m a1 a2 a3 a4 M1) else (f_R_rom_j1_m a1 a2 a3 a4 M1 (0 : Int32))))
def ok_R_rom (M0 : Mem) (a1 : Int32) (a2 : Int32) (a3 : Int32) (a4 : Int64) : Prop := ∀ M1 : Mem, M1 = mst M0 0 0 (0 : Int32) → ok_R_in M1 a3 (1 : Int32) (8 : Int32) ∧ (∀ x2 : Int32, x2 = f_R_in_v M1 a3 (1 : Int32) (8 : Int32) → (((x2 = 0) → ok_R_rom_j4 a1 a2 a3 a4 M1) ∧ ((¬ x2 = 0) → ok_R_in M1 a1 (0 : Int32) (7 : Int32) ∧ (∀ x74 : Int32, x74 = f_R_in_v M1 a1 (0 : Int32) (7 : Int32) → (((¬ x74 = 0) → ok_R_rom_j1 a1 a2 a3 a4 M1 (0 : Int32)) ∧ ((x74 = 0) → ok_R_rom_j4 a1 a2 a3 a4 M1))))))
set_option maxRecDepth 100000 in
set_option maxHeartbeats 4000000 in
theorem sp_R_rom (M0 : Mem) (a1 : Int32) (a2 : Int32) (a3 : Int32) (a4 : Int64) (Q : Int32 → Mem → Prop) (hok : ok_R_rom M0 a1 a2 a3 a4) (hQ : Q (f_R_rom_v M0 a1 a2 a3 a4) (f_R_rom_m M0 a1 a2 a3 a4)) : wp_R_rom M0 a1 a2 a3 a4 Q := by
  unfold wp_R_rom
  unfold ok_R_rom at hok
  unfold f_R_rom_v f_R_rom_m at hQ
  intro M1 h_; subst h_
  have hok := hok _ rfl
  refine sp_R_in _ _ _ _ _ hok.1 ?_
  have hok := hok.2 _ rfl
  refine ⟨fun hc => ?_, fun hc => ?_⟩
  · simp only [if_pos hc] at hQ
    have hok := hok.1 hc
    exact sp_R_rom_j4 _ _ _ _ _ _ hok hQ
  · simp only [if_neg hc] at hQ
    have hok := hok.2 hc
    refine sp_R_in _ _ _ _ _ hok.1 ?_
    have hok := hok.2 _ rfl
    refine ⟨fun hc => ?_, fun hc => ?_⟩
    · simp only [if_neg hc] at hQ
      have hok := hok.1 hc
      exact sp_R_rom_j1 _ _ _ _ _ _ _ hok hQ
    · simp only [if_pos hc] at hQ
      have hok := hok.2 hc
      exact sp_R_rom_j4 _ _ _ _ _ _ hok hQ
