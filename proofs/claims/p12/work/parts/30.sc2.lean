set_option maxRecDepth 100000 in
set_option maxHeartbeats 4000000 in
theorem so_Q_returnIf_j1 {d : Int32} {ρ : Nat → Int32} {Q : Mem → Prop} (M6 : Mem) (s_M6 : SC d ρ M6) (hQ : ∀ (M' : Mem), SC d ρ M' → Q M') : Q (f_Q_returnIf_j1_m M6) := by
  unfold f_Q_returnIf_j1_m
  (try dsimp only)
  exact hQ _ s_M6
set_option maxRecDepth 100000 in
set_option maxHeartbeats 4000000 in
theorem sq_Q_returnIf {d : Int32} {ρ : Nat → Int32} {Q : Mem → Prop} (M0 : Mem) (a1 : Int32) (s_M0 : SC d ρ M0) (hQ : ∀ (M' : Mem), SC d ρ M' → Q M') : ok_Q_returnIf M0 a1 ∧ Q (f_Q_returnIf_m M0 a1) := by
  unfold ok_Q_returnIf f_Q_returnIf_m
  (try dsimp only)
  refine ps_let ?_
  have s_M1 : SC d ρ (mst M0 5 10 ((M0 5 10) + (1 : Int32))) := SC.sa s_M0 (by decide)
  generalize e_M1 : mst M0 5 10 ((M0 5 10) + (1 : Int32)) = M1 at s_M1 ⊢
  by_cases hc1 : a1 = 0
  · skip
    refine ps_brp hc1 ?_
    refine And.intro trivial ?_
    (try simp only [if_pos hc1])
    exact so_Q_returnIf_j1 (d := d) (ρ := ρ) M1 s_M1 hQ
  · skip
    refine ps_brn hc1 ?_
    (try simp only [if_neg hc1])
    have t_ := so_Q_pop (d := d) (ρ := ρ) M1 s_M1 
    refine And.intro t_.1 ?_
    replace t_ := t_.2
    generalize e_x7 : f_Q_pop_v M1 = x7 at t_ ⊢
    generalize e_M8 : f_Q_pop_m M1 = M8 at t_ ⊢
    have s_M8 := t_
    have t_ := so_Q_jump (d := d) (ρ := ρ) M8 (1 : Int32) x7 s_M8 
    generalize e_M9 : f_Q_jump_m M8 (1 : Int32) x7 = M9 at t_ ⊢
    have s_M9 := t_
    exact so_Q_returnIf_j1 (d := d) (ρ := ρ) M9 s_M9 hQ
theorem so_Q_returnIf {d : Int32} {ρ : Nat → Int32} (M0 : Mem) (a1 : Int32) (s_M0 : SC d ρ M0) : ok_Q_returnIf M0 a1 ∧ SC d ρ (f_Q_returnIf_m M0 a1) := sq_Q_returnIf (d := d) (ρ := ρ) (Q := fun M' => SC d ρ M') M0 a1 s_M0  (fun _ h0 => h0)
set_option maxRecDepth 100000 in
set_option maxHeartbeats 4000000 in
theorem so_Q_addToStackPointer_j3 {d : Int32} {ρ : Nat → Int32} {Q : Mem → Prop} (M26 : Mem) (x29 : Int32) (s_M26 : SC d ρ M26) (hQ : ∀ (M' : Mem), SC d ρ M' → Q M') : Q (f_Q_addToStackPointer_j3_m M26 x29) := by
  unfold f_Q_addToStackPointer_j3_m
  (try dsimp only)
  have s_M30 : SC d ρ (mst M26 5 10 ((M26 5 10) + x29)) := SC.sa s_M26 (by decide)
  generalize e_M30 : mst M26 5 10 ((M26 5 10) + x29) = M30 at s_M30 ⊢
  exact hQ _ s_M30
set_option maxRecDepth 100000 in
set_option maxHeartbeats 4000000 in
theorem so_Q_addToStackPointer_j2 {d : Int32} {ρ : Nat → Int32} {Q : Mem → Prop} (M0 : Mem) (a1 : Int32) (a2 : Int32) (x16 : Int32) (x24 : Int32) (s_M0 : SC d ρ M0) (hQ : ∀ (M' : Mem), SC d ρ M' → Q M') : ok_Q_addToStackPointer_j2 M0 a1 a2 x16 x24 ∧ Q (f_Q_addToStackPointer_j2_m M0 a1 a2 x16 x24) := by
  unfold ok_Q_addToStackPointer_j2 f_Q_addToStackPointer_j2_m
  (try dsimp only)
  refine ps_let ?_
  have s_M25 : SC d ρ (mst M0 17 6 (x16 ||| x24)) := SC.sa s_M0 (by decide)
  generalize e_M25 : mst M0 17 6 (x16 ||| x24) = M25 at s_M25 ⊢
  have t_ := so_Q_setPair (d := d) (ρ := ρ) M25 a1 ((M25 5 7) + (a2.toInt8.toInt32)) s_M25 
  refine And.intro t_.1 ?_
  replace t_ := t_.2
  generalize e_M26 : f_Q_setPair_m M25 a1 ((M25 5 7) + (a2.toInt8.toInt32)) = M26 at t_ ⊢
  have s_M26 := t_
  by_cases hc1 : a1 = (3 : Int32)
  · skip
    (try simp only [if_pos hc1])
    exact so_Q_addToStackPointer_j3 (d := d) (ρ := ρ) M26 (2 : Int32) s_M26 hQ
  · skip
    (try simp only [if_neg hc1])
    exact so_Q_addToStackPointer_j3 (d := d) (ρ := ρ) M26 (1 : Int32) s_M26 hQ
set_option maxRecDepth 100000 in
set_option maxHeartbeats 4000000 in
theorem so_Q_addToStackPointer_j1 {d : Int32} {ρ : Nat → Int32} {Q : Mem → Prop} (M0 : Mem) (a1 : Int32) (a2 : Int32) (x16 : Int32) (s_M0 : SC d ρ M0) (hQ : ∀ (M' : Mem), SC d ρ M' → Q M') : ok_Q_addToStackPointer_j1 M0 a1 a2 x16 ∧ Q (f_Q_addToStackPointer_j1_m M0 a1 a2 x16) := by
  unfold ok_Q_addToStackPointer_j1 f_Q_addToStackPointer_j1_m
  (try dsimp only)
  by_cases hc1 : (((M0 5 7) &&& (255 : Int32)) + a2) ≤ (255 : Int32)
  · skip
    refine ps_brp hc1 ?_
    (try simp only [if_pos hc1])
    exact so_Q_addToStackPointer_j2 (d := d) (ρ := ρ) M0 a1 a2 x16 (0 : Int32) s_M0 hQ
  · skip
    refine ps_brn hc1 ?_
    (try simp only [if_neg hc1])
    exact so_Q_addToStackPointer_j2 (d := d) (ρ := ρ) M0 a1 a2 x16 (16 : Int32) s_M0 hQ
set_option maxRecDepth 100000 in
set_option maxHeartbeats 4000000 in
theorem sq_Q_addToStackPointer {d : Int32} {ρ : Nat → Int32} {Q : Mem → Prop} (M0 : Mem) (a1 : Int32) (a2 : Int32) (s_M0 : SC d ρ M0) (hQ : ∀ (M' : Mem), SC d ρ M' → Q M') : ok_Q_addToStackPointer M0 a1 a2 ∧ Q (f_Q_addToStackPointer_m M0 a1 a2) := by
  unfold ok_Q_addToStackPointer f_Q_addToStackPointer_m
  (try dsimp only)
  by_cases hc1 : (((M0 5 7) &&& (15 : Int32)) + (a2 &&& (15 : Int32))) ≤ (15 : Int32)
  · skip
    refine ps_brp hc1 ?_
    (try simp only [if_pos hc1])
    exact so_Q_addToStackPointer_j1 (d := d) (ρ := ρ) M0 a1 a2 (0 : Int32) s_M0 hQ
  · skip
    refine ps_brn hc1 ?_
    (try simp only [if_neg hc1])
    exact so_Q_addToStackPointer_j1 (d := d) (ρ := ρ) M0 a1 a2 (32 : Int32) s_M0 hQ
theorem so_Q_addToStackPointer {d : Int32} {ρ : Nat → Int32} (M0 : Mem) (a1 : Int32) (a2 : Int32) (s_M0 : SC d ρ M0) : ok_Q_addToStackPointer M0 a1 a2 ∧ SC d ρ (f_Q_addToStackPointer_m M0 a1 a2) := sq_Q_addToStackPointer (d := d) (ρ := ρ) (Q := fun M' => SC d ρ M') M0 a1 a2 s_M0  (fun _ h0 => h0)
set_option maxRecDepth 100000 in
set_option maxHeartbeats 4000000 in
theorem so_Q_setStackPair_j1 {d : Int32} {ρ : Nat → Int32} {Q : Mem → Prop} (M5 : Mem) (s_M5 : SC d ρ M5) (hQ : ∀ (M' : Mem), SC d ρ M' → Q M') : Q (f_Q_setStackPair_j1_m M5) := by
  unfold f_Q_setStackPair_j1_m
  (try dsimp only)
  exact hQ _ s_M5
set_option maxRecDepth 100000 in
set_option maxHeartbeats 4000000 in
theorem sq_Q_setStackPair {d : Int32} {ρ : Nat → Int32} {Q : Mem → Prop} (M0 : Mem) (a1 : Int32) (a2 : Int32) (s_M0 : SC d ρ M0) (hQ : ∀ (M' : Mem), SC d ρ M' → Q M') : ok_Q_setStackPair M0 a1 a2 ∧ Q (f_Q_setStackPair_m M0 a1 a2) := by
  unfold ok_Q_setStackPair f_Q_setStackPair_m
  (try dsimp only)
  by_cases hc1 : a1 = (3 : Int32)
  · skip
    refine ps_nrp hc1 ?_
    refine And.intro trivial ?_
    (try simp only [if_pos hc1])
    have s_M7 : SC d ρ (mst M0 17 7 (a2 >>> ((8 : Int32) &&& (31 : Int32)))) := SC.sa s_M0 (by decide)
    generalize e_M7 : mst M0 17 7 (a2 >>> ((8 : Int32) &&& (31 : Int32))) = M7 at s_M7 ⊢
    have s_M8 : SC d ρ (mst M7 17 6 (a2 &&& (240 : Int32))) := SC.sa s_M7 (by decide)
    generalize e_M8 : mst M7 17 6 (a2 &&& (240 : Int32)) = M8 at s_M8 ⊢
    exact so_Q_setStackPair_j1 (d := d) (ρ := ρ) M8 s_M8 hQ
  · skip
    refine ps_nrn hc1 ?_
    (try simp only [if_neg hc1])
    have t_ := so_Q_setPair (d := d) (ρ := ρ) M0 a1 a2 s_M0 
    refine And.intro t_.1 ?_
    replace t_ := t_.2
    generalize e_M6 : f_Q_setPair_m M0 a1 a2 = M6 at t_ ⊢
    have s_M6 := t_
    exact so_Q_setStackPair_j1 (d := d) (ρ := ρ) M6 s_M6 hQ
theorem so_Q_setStackPair {d : Int32} {ρ : Nat → Int32} (M0 : Mem) (a1 : Int32) (a2 : Int32) (s_M0 : SC d ρ M0) : ok_Q_setStackPair M0 a1 a2 ∧ SC d ρ (f_Q_setStackPair_m M0 a1 a2) := sq_Q_setStackPair (d := d) (ρ := ρ) (Q := fun M' => SC d ρ M') M0 a1 a2 s_M0  (fun _ h0 => h0)
set_option maxRecDepth 100000 in
set_option maxHeartbeats 4000000 in
theorem so_Q_switchInterrupts_j2 {d : Int32} {ρ : Nat → Int32} {Q : Mem → Prop} (M8 : Mem) (x11 : Int32) (s_M8 : SC d ρ M8) (hp0 : isB x11) (hQ : ∀ (M' : Mem), SC d ρ M' → Q M') : ok_Q_switchInterrupts_j2 M8 x11 ∧ Q (f_Q_switchInterrupts_j2_m M8 x11) := by
  unfold ok_Q_switchInterrupts_j2 f_Q_switchInterrupts_j2_m
  (try dsimp only)
  refine And.intro (by assumption) ?_
  have s_M12 : SC d ρ (mst M8 5 3 x11) := SC.sa s_M8 (by decide)
  generalize e_M12 : mst M8 5 3 x11 = M12 at s_M12 ⊢
  exact hQ _ s_M12
set_option maxRecDepth 100000 in
set_option maxHeartbeats 4000000 in
theorem so_Q_switchInterrupts_j3 {d : Int32} {ρ : Nat → Int32} {Q : Mem → Prop} (M8 : Mem) (s_M8 : SC d ρ M8) (hQ : ∀ (M' : Mem), SC d ρ M' → Q M') : ok_Q_switchInterrupts_j3 M8 ∧ Q (f_Q_switchInterrupts_j3_m M8) := by
  unfold ok_Q_switchInterrupts_j3 f_Q_switchInterrupts_j3_m
  (try dsimp only)
  exact so_Q_switchInterrupts_j2 (d := d) (ρ := ρ) M8 (0 : Int32) s_M8 (by exact isB_0) hQ
set_option maxRecDepth 100000 in
set_option maxHeartbeats 4000000 in
theorem so_Q_switchInterrupts_j1 {d : Int32} {ρ : Nat → Int32} {Q : Mem → Prop} (M0 : Mem) (a1 : Int32) (x7 : Int32) (s_M0 : SC d ρ M0) (hp0 : isB x7) (hQ : ∀ (M' : Mem), SC d ρ M' → Q M') : ok_Q_switchInterrupts_j1 M0 a1 x7 ∧ Q (f_Q_switchInterrupts_j1_m M0 a1 x7) := by
  unfold ok_Q_switchInterrupts_j1 f_Q_switchInterrupts_j1_m
  (try dsimp only)
  refine ps_and (by assumption) ?_
  refine ps_let ?_
  have s_M8 : SC d ρ (mst M0 5 9 x7) := SC.sa s_M0 (by decide)
  generalize e_M8 : mst M0 5 9 x7 = M8 at s_M8 ⊢
  by_cases hc1 : (M8 5 3) = 0
  · skip
    refine ps_brp hc1 ?_
    (try simp only [if_pos hc1])
    exact so_Q_switchInterrupts_j3 (d := d) (ρ := ρ) M8 s_M8 hQ
  · skip
    refine ps_brn hc1 ?_
    (try simp only [if_neg hc1])
    by_cases hc2 : a1 = 0
    · skip
      refine ps_brp hc2 ?_
      (try simp only [if_pos hc2])
      exact so_Q_switchInterrupts_j3 (d := d) (ρ := ρ) M8 s_M8 hQ
    · skip
      refine ps_brn hc2 ?_
      (try simp only [if_neg hc2])
      exact so_Q_switchInterrupts_j2 (d := d) (ρ := ρ) M8 (1 : Int32) s_M8 (by exact isB_1) hQ
set_option maxRecDepth 100000 in
set_option maxHeartbeats 4000000 in
theorem so_Q_switchInterrupts_j4 {d : Int32} {ρ : Nat → Int32} {Q : Mem → Prop} (M0 : Mem) (a1 : Int32) (s_M0 : SC d ρ M0) (hQ : ∀ (M' : Mem), SC d ρ M' → Q M') : ok_Q_switchInterrupts_j4 M0 a1 ∧ Q (f_Q_switchInterrupts_j4_m M0 a1) := by
  unfold ok_Q_switchInterrupts_j4 f_Q_switchInterrupts_j4_m
  (try dsimp only)
  exact so_Q_switchInterrupts_j1 (d := d) (ρ := ρ) M0 a1 (0 : Int32) s_M0 (by exact isB_0) hQ
set_option maxRecDepth 100000 in
set_option maxHeartbeats 4000000 in
theorem sq_Q_switchInterrupts {d : Int32} {ρ : Nat → Int32} {Q : Mem → Prop} (M0 : Mem) (a1 : Int32) (s_M0 : SC d ρ M0) (hQ : ∀ (M' : Mem), SC d ρ M' → Q M') : ok_Q_switchInterrupts M0 a1 ∧ Q (f_Q_switchInterrupts_m M0 a1) := by
  unfold ok_Q_switchInterrupts f_Q_switchInterrupts_m
  (try dsimp only)
  by_cases hc1 : a1 = 0
  · skip
    refine ps_brp hc1 ?_
    (try simp only [if_pos hc1])
    exact so_Q_switchInterrupts_j4 (d := d) (ρ := ρ) M0 a1 s_M0 hQ
  · skip
    refine ps_brn hc1 ?_
    (try simp only [if_neg hc1])
    by_cases hc2 : (M0 5 3) = 0
    · skip
      refine ps_nrp hc2 ?_
      (try simp only [if_pos hc2])
      exact so_Q_switchInterrupts_j1 (d := d) (ρ := ρ) M0 a1 (1 : Int32) s_M0 (by exact isB_1) hQ
    · skip
      refine ps_nrn hc2 ?_
      (try simp only [if_neg hc2])
      exact so_Q_switchInterrupts_j4 (d := d) (ρ := ρ) M0 a1 s_M0 hQ
theorem so_Q_switchInterrupts {d : Int32} {ρ : Nat → Int32} (M0 : Mem) (a1 : Int32) (s_M0 : SC d ρ M0) : ok_Q_switchInterrupts M0 a1 ∧ SC d ρ (f_Q_switchInterrupts_m M0 a1) := sq_Q_switchInterrupts (d := d) (ρ := ρ) (Q := fun M' => SC d ρ M') M0 a1 s_M0  (fun _ h0 => h0)
set_option maxRecDepth 100000 in
set_option maxHeartbeats 4000000 in
theorem so_Q_doHigh_j2 {d : Int32} {ρ : Nat → Int32} {Q : Mem → Prop} (M183 : Mem) (s_M183 : SC d ρ M183) (hQ : ∀ (M' : Mem), SC d ρ M' → Q M') : Q (f_Q_doHigh_j2_m M183) := by
  unfold f_Q_doHigh_j2_m
  (try dsimp only)
  exact hQ _ s_M183
set_option maxRecDepth 100000 in
set_option maxHeartbeats 4000000 in
theorem so_Q_doHigh_j3 {d : Int32} {ρ : Nat → Int32} {Q : Mem → Prop} (x184 : Int32) (M185 : Mem) (x188 : Int32) (s_M185 : SC d ρ M185) (hQ : ∀ (M' : Mem), SC d ρ M' → Q M') : ok_Q_doHigh_j3 x184 M185 x188 ∧ Q (f_Q_doHigh_j3_m x184 M185 x188) := by
  unfold ok_Q_doHigh_j3 f_Q_doHigh_j3_m
  (try dsimp only)
  have t_ := so_Q_copyA (d := d) (ρ := ρ) M185 ((65280 : Int32) ||| x184) x188 s_M185 
  refine And.intro t_.1 ?_
  replace t_ := t_.2
  generalize e_M189 : f_Q_copyA_m M185 ((65280 : Int32) ||| x184) x188 = M189 at t_ ⊢
  have s_M189 := t_
  exact so_Q_doHigh_j2 (d := d) (ρ := ρ) M189 s_M189 hQ
set_option maxRecDepth 100000 in
set_option maxHeartbeats 4000000 in
theorem so_Q_doHigh_j4 {d : Int32} {ρ : Nat → Int32} {Q : Mem → Prop} (M0 : Mem) (x194 : Int32) (s_M0 : SC d ρ M0) (hQ : ∀ (M' : Mem), SC d ρ M' → Q M') : ok_Q_doHigh_j4 M0 x194 ∧ Q (f_Q_doHigh_j4_m M0 x194) := by
  unfold ok_Q_doHigh_j4 f_Q_doHigh_j4_m
  (try dsimp only)
  have t_ := so_Q_fetch (d := d) (ρ := ρ) M0 s_M0 
  refine ps_and t_.1 ?_
  replace t_ := t_.2
  refine ps_let ?_
  refine ps_let ?_
  generalize e_x195 : f_Q_fetch_v M0 = x195 at t_ ⊢
  generalize e_M196 : f_Q_fetch_m M0 = M196 at t_ ⊢
  have s_M196 := t_
  have t_ := so_Q_addToStackPointer (d := d) (ρ := ρ) M196 x194 x195 s_M196 
  refine And.intro t_.1 ?_
  replace t_ := t_.2
  generalize e_M197 : f_Q_addToStackPointer_m M196 x194 x195 = M197 at t_ ⊢
  have s_M197 := t_
  exact so_Q_doHigh_j2 (d := d) (ρ := ρ) M197 s_M197 hQ
set_option maxRecDepth 100000 in
set_option maxHeartbeats 4000000 in
theorem so_Q_doHigh_j5 {d : Int32} {ρ : Nat → Int32} {Q : Mem → Prop} (M207 : Mem) (x210 : Int32) (s_M207 : SC d ρ M207) (hp0 : isB x210) (hQ : ∀ (M' : Mem), SC d ρ M' → Q M') : ok_Q_doHigh_j5 M207 x210 ∧ Q (f_Q_doHigh_j5_m M207 x210) := by
  unfold ok_Q_doHigh_j5 f_Q_doHigh_j5_m
  (try dsimp only)
  refine And.intro (by assumption) ?_
  have s_M211 : SC d ρ (mst M207 5 3 x210) := SC.sa s_M207 (by decide)
  generalize e_M211 : mst M207 5 3 x210 = M211 at s_M211 ⊢
  exact so_Q_doHigh_j2 (d := d) (ρ := ρ) M211 s_M211 hQ
set_option maxRecDepth 100000 in
set_option maxHeartbeats 4000000 in
theorem so_Q_doHigh_j6 {d : Int32} {ρ : Nat → Int32} {Q : Mem → Prop} (M207 : Mem) (s_M207 : SC d ρ M207) (hQ : ∀ (M' : Mem), SC d ρ M' → Q M') : ok_Q_doHigh_j6 M207 ∧ Q (f_Q_doHigh_j6_m M207) := by
  unfold ok_Q_doHigh_j6 f_Q_doHigh_j6_m
  (try dsimp only)
  exact so_Q_doHigh_j5 (d := d) (ρ := ρ) M207 (1 : Int32) s_M207 (by exact isB_1) hQ
set_option maxRecDepth 100000 in
set_option maxHeartbeats 4000000 in
theorem so_Q_doHigh_j8 {d : Int32} {ρ : Nat → Int32} {Q : Mem → Prop} (x223 : Int32) (M224 : Mem) (x227 : Int32) (s_M224 : SC d ρ M224) (hQ : ∀ (M' : Mem), SC d ρ M' → Q M') : ok_Q_doHigh_j8 x223 M224 x227 ∧ Q (f_Q_doHigh_j8_m x223 M224 x227) := by
  unfold ok_Q_doHigh_j8 f_Q_doHigh_j8_m
  (try dsimp only)
  have t_ := so_Q_copyA (d := d) (ρ := ρ) M224 x223 x227 s_M224 
  refine And.intro t_.1 ?_
  replace t_ := t_.2
  generalize e_M228 : f_Q_copyA_m M224 x223 x227 = M228 at t_ ⊢
  have s_M228 := t_
  exact so_Q_doHigh_j2 (d := d) (ρ := ρ) M228 s_M228 hQ
set_option maxRecDepth 100000 in
set_option maxHeartbeats 4000000 in
theorem so_Q_doHigh_j7 {d : Int32} {ρ : Nat → Int32} {Q : Mem → Prop} (a1 : Int32) (x223 : Int32) (M224 : Mem) (s_M224 : SC d ρ M224) (hQ : ∀ (M' : Mem), SC d ρ M' → Q M') : ok_Q_doHigh_j7 a1 x223 M224 ∧ Q (f_Q_doHigh_j7_m a1 x223 M224) := by
  unfold ok_Q_doHigh_j7 f_Q_doHigh_j7_m
  (try dsimp only)
  by_cases hc1 : a1 < (6 : Int32)
  · skip
    refine ps_brp hc1 ?_
    (try simp only [if_pos hc1])
    exact so_Q_doHigh_j8 (d := d) (ρ := ρ) x223 M224 (0 : Int32) s_M224 hQ
  · skip
    refine ps_brn hc1 ?_
    (try simp only [if_neg hc1])
    exact so_Q_doHigh_j8 (d := d) (ρ := ρ) x223 M224 (1 : Int32) s_M224 hQ
set_option maxRecDepth 100000 in
set_option maxHeartbeats 4000000 in
theorem so_Q_doHigh_j9 {d : Int32} {ρ : Nat → Int32} {Q : Mem → Prop} (M0 : Mem) (x238 : Int32) (s_M0 : SC d ρ M0) (hQ : ∀ (M' : Mem), SC d ρ M' → Q M') : ok_Q_doHigh_j9 M0 x238 ∧ Q (f_Q_doHigh_j9_m M0 x238) := by
  unfold ok_Q_doHigh_j9 f_Q_doHigh_j9_m
  (try dsimp only)
  have t_ := so_Q_switchInterrupts (d := d) (ρ := ρ) M0 x238 s_M0 
  refine And.intro t_.1 ?_
  replace t_ := t_.2
  generalize e_M239 : f_Q_switchInterrupts_m M0 x238 = M239 at t_ ⊢
  have s_M239 := t_
  exact so_Q_doHigh_j2 (d := d) (ρ := ρ) M239 s_M239 hQ
set_option maxRecDepth 100000 in
set_option maxHeartbeats 4000000 in
theorem so_Q_doHigh_j1 {d : Int32} {ρ : Nat → Int32} {Q : Mem → Prop} (M0 : Mem) (a1 : Int32) (a2 : Int32) (x122 : Int32) (s_M0 : SC d ρ M0) (hQ : ∀ (M' : Mem), SC d ρ M' → Q M') : ok_Q_doHigh_j1 M0 a1 a2 x122 ∧ Q (f_Q_doHigh_j1_m M0 a1 a2 x122) := by
  unfold ok_Q_doHigh_j1 f_Q_doHigh_j1_m
  (try dsimp only)
  by_cases hc1 : (a2 = (0 : Int32))
  · skip
    refine ps_brp hc1 ?_
    (try simp only [if_pos hc1])
    by_cases hc2 : (4 : Int32) ≤ a1
    · skip
      refine ps_brp hc2 ?_
      (try simp only [if_pos hc2])
      by_cases hc3 : x122 = 0
      · skip
        refine ps_brp hc3 ?_
        (try simp only [if_pos hc3])
        have t_ := so_Q_fetch (d := d) (ρ := ρ) M0 s_M0 
        refine ps_and t_.1 ?_
        replace t_ := t_.2
        refine ps_let ?_
        refine ps_let ?_
        generalize e_x184 : f_Q_fetch_v M0 = x184 at t_ ⊢
        generalize e_M185 : f_Q_fetch_m M0 = M185 at t_ ⊢
        have s_M185 := t_
        by_cases hc4 : a1 = (6 : Int32)
        · skip
          refine ps_nrp hc4 ?_
          (try simp only [if_pos hc4])
          exact so_Q_doHigh_j3 (d := d) (ρ := ρ) x184 M185 (1 : Int32) s_M185 hQ
        · skip
          refine ps_nrn hc4 ?_
          (try simp only [if_neg hc4])
          exact so_Q_doHigh_j3 (d := d) (ρ := ρ) x184 M185 (0 : Int32) s_M185 hQ
      · skip
        refine ps_brn hc3 ?_
        (try simp only [if_neg hc3])
        by_cases hc4 : a1 = (5 : Int32)
        · skip
          refine ps_nrp hc4 ?_
          (try simp only [if_pos hc4])
          exact so_Q_doHigh_j4 (d := d) (ρ := ρ) M0 (3 : Int32) s_M0 hQ
        · skip
          refine ps_nrn hc4 ?_
          (try simp only [if_neg hc4])
          exact so_Q_doHigh_j4 (d := d) (ρ := ρ) M0 (2 : Int32) s_M0 hQ
    · skip
      refine ps_brn hc2 ?_
      (try simp only [if_neg hc2])
      have t_ := so_Q_holds (d := d) (ρ := ρ) M0 a1 s_M0 
      refine ps_and t_.1 ?_
      replace t_ := t_.2
      refine ps_let ?_
      generalize e_x198 : f_Q_holds_v M0 a1 = x198 at t_ ⊢
      have t_ := so_Q_returnIf (d := d) (ρ := ρ) M0 x198 s_M0 
      refine And.intro t_.1 ?_
      replace t_ := t_.2
      generalize e_M199 : f_Q_returnIf_m M0 x198 = M199 at t_ ⊢
      have s_M199 := t_
      exact so_Q_doHigh_j2 (d := d) (ρ := ρ) M199 s_M199 hQ
  · skip
    refine ps_brn hc1 ?_
    (try simp only [if_neg hc1])
    by_cases hc2 : (a2 = (1 : Int32))
    · skip
      refine ps_brp hc2 ?_
      (try simp only [if_pos hc2])
      by_cases hc3 : x122 = 0
      · skip
        refine ps_nrp hc3 ?_
        (try simp only [if_pos hc3])
        have t_ := so_Q_pop (d := d) (ρ := ρ) M0 s_M0 
        refine ps_and t_.1 ?_
        replace t_ := t_.2
        refine ps_let ?_
        refine ps_let ?_
        generalize e_x212 : f_Q_pop_v M0 = x212 at t_ ⊢
        generalize e_M213 : f_Q_pop_m M0 = M213 at t_ ⊢
        have s_M213 := t_
        have t_ := so_Q_setStackPair (d := d) (ρ := ρ) M213 (a1 >>> ((1 : Int32) &&& (31 : Int32))) x212 s_M213 
        refine And.intro t_.1 ?_
        replace t_ := t_.2
        generalize e_M214 : f_Q_setStackPair_m M213 (a1 >>> ((1 : Int32) &&& (31 : Int32))) x212 = M214 at t_ ⊢
        have s_M214 := t_
        exact so_Q_doHigh_j2 (d := d) (ρ := ρ) M214 s_M214 hQ
      · skip
        refine ps_nrn hc3 ?_
        (try simp only [if_neg hc3])
        by_cases hc4 : (4 : Int32) ≤ a1
        · skip
          refine ps_brp hc4 ?_
          (try simp only [if_pos hc4])
          by_cases hc5 : a1 = (5 : Int32)
          · skip
            refine ps_nrp hc5 ?_
            (try simp only [if_pos hc5])
            have t_ := so_Q_pair (d := d) (ρ := ρ) M0 (2 : Int32) s_M0 
            refine And.intro t_.1 ?_
            replace t_ := t_.2
            generalize e_x203 : f_Q_pair_v M0 (2 : Int32) = x203 at t_ ⊢
            have s_M204 : SC d ρ (mst M0 5 8 x203) := SC.sa s_M0 (by decide)
            generalize e_M204 : mst M0 5 8 x203 = M204 at s_M204 ⊢
            exact so_Q_doHigh_j2 (d := d) (ρ := ρ) M204 s_M204 hQ
          · skip
            refine ps_nrn hc5 ?_
            (try simp only [if_neg hc5])
            have t_ := so_Q_pair (d := d) (ρ := ρ) M0 (2 : Int32) s_M0 
            refine And.intro t_.1 ?_
            replace t_ := t_.2
            generalize e_x200 : f_Q_pair_v M0 (2 : Int32) = x200 at t_ ⊢
            have s_M201 : SC d ρ (mst M0 5 7 x200) := SC.sa s_M0 (by decide)
            generalize e_M201 : mst M0 5 7 x200 = M201 at s_M201 ⊢
            have s_M202 : SC d ρ (mst M201 5 10 ((M201 5 10) + (1 : Int32))) := SC.sa s_M201 (by decide)
            generalize e_M202 : mst M201 5 10 ((M201 5 10) + (1 : Int32)) = M202 at s_M202 ⊢
            exact so_Q_doHigh_j2 (d := d) (ρ := ρ) M202 s_M202 hQ
        · skip
          refine ps_brn hc4 ?_
          (try simp only [if_neg hc4])
          have t_ := so_Q_pop (d := d) (ρ := ρ) M0 s_M0 
          refine ps_and t_.1 ?_
          replace t_ := t_.2
          refine ps_let ?_
          refine ps_let ?_
          generalize e_x205 : f_Q_pop_v M0 = x205 at t_ ⊢
          generalize e_M206 : f_Q_pop_m M0 = M206 at t_ ⊢
          have s_M206 := t_
          have t_ := so_Q_jump (d := d) (ρ := ρ) M206 (1 : Int32) x205 s_M206 
          refine ps_let ?_
          generalize e_M207 : f_Q_jump_m M206 (1 : Int32) x205 = M207 at t_ ⊢
          have s_M207 := t_
          by_cases hc5 : (M207 5 3) = 0
          · skip
            refine ps_nrp hc5 ?_
            (try simp only [if_pos hc5])
            by_cases hc6 : a1 = (3 : Int32)
            · skip
              refine ps_nrp hc6 ?_
              (try simp only [if_pos hc6])
              exact so_Q_doHigh_j6 (d := d) (ρ := ρ) M207 s_M207 hQ
            · skip
              refine ps_nrn hc6 ?_
              (try simp only [if_neg hc6])
              exact so_Q_doHigh_j5 (d := d) (ρ := ρ) M207 (0 : Int32) s_M207 (by exact isB_0) hQ
          · skip
            refine ps_nrn hc5 ?_
            (try simp only [if_neg hc5])
            exact so_Q_doHigh_j6 (d := d) (ρ := ρ) M207 s_M207 hQ
    · skip
      refine ps_brn hc2 ?_
      (try simp only [if_neg hc2])
      by_cases hc3 : (a2 = (2 : Int32))
      · skip
        refine ps_brp hc3 ?_
        (try simp only [if_pos hc3])
        by_cases hc4 : (4 : Int32) ≤ a1
        · skip
          refine ps_brp hc4 ?_
          (try simp only [if_pos hc4])
          by_cases hc5 : x122 = 0
          · skip
            refine ps_brp hc5 ?_
            (try simp only [if_pos hc5])
            exact so_Q_doHigh_j7 (d := d) (ρ := ρ) a1 ((65280 : Int32) ||| (M0 17 1)) M0 s_M0 hQ
          · skip
            refine ps_brn hc5 ?_
            (try simp only [if_neg hc5])
            have t_ := so_Q_fetchWord (d := d) (ρ := ρ) M0 s_M0 
            refine ps_and t_.1 ?_
            replace t_ := t_.2
            refine ps_let ?_
            refine ps_let ?_
            generalize e_x229 : f_Q_fetchWord_v M0 = x229 at t_ ⊢
            generalize e_M230 : f_Q_fetchWord_m M0 = M230 at t_ ⊢
            have s_M230 := t_
            exact so_Q_doHigh_j7 (d := d) (ρ := ρ) a1 x229 M230 s_M230 hQ
        · skip
          refine ps_brn hc4 ?_
          (try simp only [if_neg hc4])
          have t_ := so_Q_holds (d := d) (ρ := ρ) M0 a1 s_M0 
          refine ps_and t_.1 ?_
          replace t_ := t_.2
          refine ps_let ?_
          generalize e_x231 : f_Q_holds_v M0 a1 = x231 at t_ ⊢
          have t_ := so_Q_fetchWord (d := d) (ρ := ρ) M0 s_M0 
          refine And.intro t_.1 ?_
          replace t_ := t_.2
          generalize e_x232 : f_Q_fetchWord_v M0 = x232 at t_ ⊢
          generalize e_M233 : f_Q_fetchWord_m M0 = M233 at t_ ⊢
          have s_M233 := t_
          have t_ := so_Q_jump (d := d) (ρ := ρ) M233 x231 x232 s_M233 
          generalize e_M234 : f_Q_jump_m M233 x231 x232 = M234 at t_ ⊢
          have s_M234 := t_
          exact so_Q_doHigh_j2 (d := d) (ρ := ρ) M234 s_M234 hQ
      · skip
        refine ps_brn hc3 ?_
        (try simp only [if_neg hc3])
        by_cases hc4 : a1 = 0
        · skip
          refine ps_nrp hc4 ?_
          (try simp only [if_pos hc4])
          have t_ := so_Q_fetchWord (d := d) (ρ := ρ) M0 s_M0 
          refine And.intro t_.1 ?_
          replace t_ := t_.2
          generalize e_x240 : f_Q_fetchWord_v M0 = x240 at t_ ⊢
          generalize e_M241 : f_Q_fetchWord_m M0 = M241 at t_ ⊢
          have s_M241 := t_
          have t_ := so_Q_jump (d := d) (ρ := ρ) M241 (1 : Int32) x240 s_M241 
          generalize e_M242 : f_Q_jump_m M241 (1 : Int32) x240 = M242 at t_ ⊢
          have s_M242 := t_
          exact so_Q_doHigh_j2 (d := d) (ρ := ρ) M242 s_M242 hQ
        · skip
          refine ps_nrn hc4 ?_
          (try simp only [if_neg hc4])
          by_cases hc5 : a1 < (6 : Int32)
          · skip
            refine ps_brp hc5 ?_
            refine And.intro trivial ?_
            (try simp only [if_pos hc5])
            have s_M235 : SC d ρ (mst M0 5 5 (1 : Int32)) := SC.sa s_M0 (by decide)
            generalize e_M235 : mst M0 5 5 (1 : Int32) = M235 at s_M235 ⊢
            exact so_Q_doHigh_j2 (d := d) (ρ := ρ) M235 s_M235 hQ
          · skip
            refine ps_brn hc5 ?_
            (try simp only [if_neg hc5])
            by_cases hc6 : a1 = (7 : Int32)
            · skip
              refine ps_nrp hc6 ?_
              (try simp only [if_pos hc6])
              exact so_Q_doHigh_j9 (d := d) (ρ := ρ) M0 (1 : Int32) s_M0 hQ
            · skip
              refine ps_nrn hc6 ?_
              (try simp only [if_neg hc6])
              exact so_Q_doHigh_j9 (d := d) (ρ := ρ) M0 (0 : Int32) s_M0 hQ
set_option maxRecDepth 100000 in
set_option maxHeartbeats 4000000 in
theorem sq_Q_doHigh {d : Int32} {ρ : Nat → Int32} {Q : Mem → Prop} (M0 : Mem) (a1 : Int32) (a2 : Int32) (s_M0 : SC d ρ M0) (hQ : ∀ (M' : Mem), SC d ρ M' → Q M') : ok_Q_doHigh M0 a1 a2 ∧ Q (f_Q_doHigh_m M0 a1 a2) := by
  unfold ok_Q_doHigh f_Q_doHigh_m
  (try dsimp only)
  by_cases hc1 : (a1 &&& (1 : Int32)) = 0
  · skip
    refine ps_brp hc1 ?_
    (try simp only [if_pos hc1])
    exact so_Q_doHigh_j1 (d := d) (ρ := ρ) M0 a1 a2 (0 : Int32) s_M0 hQ
  · skip
    refine ps_brn hc1 ?_
    (try simp only [if_neg hc1])
    exact so_Q_doHigh_j1 (d := d) (ρ := ρ) M0 a1 a2 (1 : Int32) s_M0 hQ
theorem so_Q_doHigh {d : Int32} {ρ : Nat → Int32} (M0 : Mem) (a1 : Int32) (a2 : Int32) (s_M0 : SC d ρ M0) : ok_Q_doHigh M0 a1 a2 ∧ SC d ρ (f_Q_doHigh_m M0 a1 a2) := sq_Q_doHigh (d := d) (ρ := ρ) (Q := fun M' => SC d ρ M') M0 a1 a2 s_M0  (fun _ h0 => h0)
set_option maxRecDepth 100000 in
set_option maxHeartbeats 4000000 in
theorem so_Q_stackPair_j1 {d : Int32} {ρ : Nat → Int32} {Q : Int32 → Prop} (x3 : Int32) (hQ : ∀ (x : Int32), Q x) : Q (f_Q_stackPair_j1_v x3) := by
  unfold f_Q_stackPair_j1_v
  (try dsimp only)
  exact hQ _
set_option maxRecDepth 100000 in
set_option maxHeartbeats 4000000 in
theorem sq_Q_stackPair {d : Int32} {ρ : Nat → Int32} {Q : Int32 → Prop} (M0 : Mem) (a1 : Int32) (s_M0 : SC d ρ M0) (hQ : ∀ (x : Int32), Q x) : ok_Q_stackPair M0 a1 ∧ Q (f_Q_stackPair_v M0 a1) := by
  unfold ok_Q_stackPair f_Q_stackPair_v
  (try dsimp only)
  by_cases hc1 : a1 = (3 : Int32)
  · skip
    refine ps_nrp hc1 ?_
    refine And.intro trivial ?_
    (try simp only [if_pos hc1])
    exact so_Q_stackPair_j1 (d := d) (ρ := ρ) (((M0 17 7) <<< ((8 : Int32) &&& (31 : Int32))) ||| (M0 17 6)) hQ
  · skip
    refine ps_nrn hc1 ?_
    (try simp only [if_neg hc1])
    have t_ := so_Q_pair (d := d) (ρ := ρ) M0 a1 s_M0 
    refine And.intro t_.1 ?_
    replace t_ := t_.2
    generalize e_x4 : f_Q_pair_v M0 a1 = x4 at t_ ⊢
    exact so_Q_stackPair_j1 (d := d) (ρ := ρ) x4 hQ
theorem so_Q_stackPair {d : Int32} {ρ : Nat → Int32} (M0 : Mem) (a1 : Int32) (s_M0 : SC d ρ M0) : ok_Q_stackPair M0 a1 ∧ True := sq_Q_stackPair (d := d) (ρ := ρ) (Q := fun _ => True) M0 a1 s_M0  (fun _ => trivial)
set_option maxRecDepth 100000 in
set_option maxHeartbeats 4000000 in
theorem so_Q_doHighest_j1 {d : Int32} {ρ : Nat → Int32} {Q : Mem → Prop} (M59 : Mem) (s_M59 : SC d ρ M59) (hQ : ∀ (M' : Mem), SC d ρ M' → Q M') : Q (f_Q_doHighest_j1_m M59) := by
  unfold f_Q_doHighest_j1_m
  (try dsimp only)
  exact hQ _ s_M59
set_option maxRecDepth 100000 in
set_option maxHeartbeats 4000000 in
theorem so_Q_doHighest_j4 {d : Int32} {ρ : Nat → Int32} {Q : Mem → Prop} (M104 : Mem) (s_M104 : SC d ρ M104) (hQ : ∀ (M' : Mem), SC d ρ M' → Q M') : Q (f_Q_doHighest_j4_m M104) := by
  unfold f_Q_doHighest_j4_m
  (try dsimp only)
  exact so_Q_doHighest_j1 (d := d) (ρ := ρ) M104 s_M104 hQ
set_option maxRecDepth 100000 in
set_option maxHeartbeats 4000000 in
theorem so_Q_doHighest_j5 {d : Int32} {ρ : Nat → Int32} {Q : Mem → Prop} (x98 : Int32) (M99 : Mem) (s_M99 : SC d ρ M99) (hQ : ∀ (M' : Mem), SC d ρ M' → Q M') : ok_Q_doHighest_j5 x98 M99 ∧ Q (f_Q_doHighest_j5_m x98 M99) := by
  unfold ok_Q_doHighest_j5 f_Q_doHighest_j5_m
  (try dsimp only)
  have t_ := so_Q_push (d := d) (ρ := ρ) M99 (M99 5 8) s_M99 
  refine And.intro t_.1 ?_
  replace t_ := t_.2
  generalize e_M105 : f_Q_push_m M99 (M99 5 8) = M105 at t_ ⊢
  have s_M105 := t_
  have s_M106 : SC d ρ (mst M105 5 8 x98) := SC.sa s_M105 (by decide)
  generalize e_M106 : mst M105 5 8 x98 = M106 at s_M106 ⊢
  exact so_Q_doHighest_j4 (d := d) (ρ := ρ) M106 s_M106 hQ
set_option maxRecDepth 100000 in
set_option maxHeartbeats 4000000 in
theorem so_Q_doHighest_j3 {d : Int32} {ρ : Nat → Int32} {Q : Mem → Prop} (M0 : Mem) (a1 : Int32) (a2 : Int32) (s_M0 : SC d ρ M0) (hQ : ∀ (M' : Mem), SC d ρ M' → Q M') : ok_Q_doHighest_j3 M0 a1 a2 ∧ Q (f_Q_doHighest_j3_m M0 a1 a2) := by
  unfold ok_Q_doHighest_j3 f_Q_doHighest_j3_m
  (try dsimp only)
  have t_ := so_Q_fetchWord (d := d) (ρ := ρ) M0 s_M0 
  refine ps_and t_.1 ?_
  replace t_ := t_.2
  refine ps_let ?_
  refine ps_let ?_
  generalize e_x98 : f_Q_fetchWord_v M0 = x98 at t_ ⊢
  generalize e_M99 : f_Q_fetchWord_m M0 = M99 at t_ ⊢
  have s_M99 := t_
  by_cases hc1 : a2 = (5 : Int32)
  · skip
    refine ps_brp hc1 ?_
    (try simp only [if_pos hc1])
    exact so_Q_doHighest_j5 (d := d) (ρ := ρ) x98 M99 s_M99 hQ
  · skip
    refine ps_brn hc1 ?_
    (try simp only [if_neg hc1])
    have t_ := so_Q_holds (d := d) (ρ := ρ) M99 a1 s_M99 
    refine ps_and t_.1 ?_
    replace t_ := t_.2
    refine ps_let ?_
    generalize e_x107 : f_Q_holds_v M99 a1 = x107 at t_ ⊢
    by_cases hc2 : x107 = 0
    · skip
      refine ps_brp hc2 ?_
      refine And.intro trivial ?_
      (try simp only [if_pos hc2])
      exact so_Q_doHighest_j4 (d := d) (ρ := ρ) M99 s_M99 hQ
    · skip
      refine ps_brn hc2 ?_
      (try simp only [if_neg hc2])
      exact so_Q_doHighest_j5 (d := d) (ρ := ρ) x98 M99 s_M99 hQ
set_option maxRecDepth 100000 in
set_option maxHeartbeats 4000000 in
theorem so_Q_doHighest_j7 {d : Int32} {ρ : Nat → Int32} {Q : Mem → Prop} (M0 : Mem) (s_M0 : SC d ρ M0) (hQ : ∀ (M' : Mem), SC d ρ M' → Q M') : Q (f_Q_doHighest_j7_m M0) := by
  unfold f_Q_doHighest_j7_m
  (try dsimp only)
  have s_M109 : SC d ρ (mst M0 5 5 (1 : Int32)) := SC.sa s_M0 (by decide)
  generalize e_M109 : mst M0 5 5 (1 : Int32) = M109 at s_M109 ⊢
  exact so_Q_doHighest_j1 (d := d) (ρ := ρ) M109 s_M109 hQ
set_option maxRecDepth 100000 in
set_option maxHeartbeats 4000000 in
theorem so_Q_doHighest_j6 {d : Int32} {ρ : Nat → Int32} {Q : Mem → Prop} (M0 : Mem) (a1 : Int32) (a2 : Int32) (s_M0 : SC d ρ M0) (hQ : ∀ (M' : Mem), SC d ρ M' → Q M') : ok_Q_doHighest_j6 M0 a1 a2 ∧ Q (f_Q_doHighest_j6_m M0 a1 a2) := by
  unfold ok_Q_doHighest_j6 f_Q_doHighest_j6_m
  (try dsimp only)
  by_cases hc1 : a2 = (5 : Int32)
  · skip
    refine ps_nrp hc1 ?_
    (try simp only [if_pos hc1])
    by_cases hc2 : a1 = (1 : Int32)
    · skip
      refine ps_nrp hc2 ?_
      (try simp only [if_pos hc2])
      exact so_Q_doHighest_j3 (d := d) (ρ := ρ) M0 a1 a2 s_M0 hQ
    · skip
      refine ps_nrn hc2 ?_
      refine And.intro trivial ?_
      (try simp only [if_neg hc2])
      exact so_Q_doHighest_j7 (d := d) (ρ := ρ) M0 s_M0 hQ
  · skip
    refine ps_nrn hc1 ?_
    refine And.intro trivial ?_
    (try simp only [if_neg hc1])
    exact so_Q_doHighest_j7 (d := d) (ρ := ρ) M0 s_M0 hQ
set_option maxRecDepth 100000 in
set_option maxHeartbeats 4000000 in
theorem so_Q_doHighest_j2 {d : Int32} {ρ : Nat → Int32} {Q : Mem → Prop} (M0 : Mem) (a1 : Int32) (a2 : Int32) (s_M0 : SC d ρ M0) (hQ : ∀ (M' : Mem), SC d ρ M' → Q M') : ok_Q_doHighest_j2 M0 a1 a2 ∧ Q (f_Q_doHighest_j2_m M0 a1 a2) := by
  unfold ok_Q_doHighest_j2 f_Q_doHighest_j2_m
  (try dsimp only)
  by_cases hc1 : a2 = (4 : Int32)
  · skip
    refine ps_nrp hc1 ?_
    (try simp only [if_pos hc1])
    by_cases hc2 : a1 < (4 : Int32)
    · skip
      refine ps_brp hc2 ?_
      (try simp only [if_pos hc2])
      exact so_Q_doHighest_j3 (d := d) (ρ := ρ) M0 a1 a2 s_M0 hQ
    · skip
      refine ps_brn hc2 ?_
      (try simp only [if_neg hc2])
      exact so_Q_doHighest_j6 (d := d) (ρ := ρ) M0 a1 a2 s_M0 hQ
  · skip
    refine ps_nrn hc1 ?_
    (try simp only [if_neg hc1])
    exact so_Q_doHighest_j6 (d := d) (ρ := ρ) M0 a1 a2 s_M0 hQ
set_option maxRecDepth 100000 in
set_option maxHeartbeats 4000000 in
theorem sq_Q_doHighest {d : Int32} {ρ : Nat → Int32} {Q : Mem → Prop} (M0 : Mem) (a1 : Int32) (a2 : Int32) (s_M0 : SC d ρ M0) (hQ : ∀ (M' : Mem), SC d ρ M' → Q M') : ok_Q_doHighest M0 a1 a2 ∧ Q (f_Q_doHighest_m M0 a1 a2) := by
  unfold ok_Q_doHighest f_Q_doHighest_m
  (try dsimp only)
  by_cases hc1 : a2 = (6 : Int32)
  · skip
    refine ps_nrp hc1 ?_
    (try simp only [if_pos hc1])
    have t_ := so_Q_fetch (d := d) (ρ := ρ) M0 s_M0 
    refine And.intro t_.1 ?_
    replace t_ := t_.2
    generalize e_x114 : f_Q_fetch_v M0 = x114 at t_ ⊢
    generalize e_M115 : f_Q_fetch_m M0 = M115 at t_ ⊢
    have s_M115 := t_
    have t_ := so_Q_combine (d := d) (ρ := ρ) M115 a1 x114 s_M115 
    generalize e_M116 : f_Q_combine_m M115 a1 x114 = M116 at t_ ⊢
    have s_M116 := t_
    exact so_Q_doHighest_j1 (d := d) (ρ := ρ) M116 s_M116 hQ
  · skip
    refine ps_nrn hc1 ?_
    (try simp only [if_neg hc1])
    by_cases hc2 : a2 = (7 : Int32)
    · skip
      refine ps_nrp hc2 ?_
      (try simp only [if_pos hc2])
      have t_ := so_Q_push (d := d) (ρ := ρ) M0 (M0 5 8) s_M0 
      refine And.intro t_.1 ?_
      replace t_ := t_.2
      generalize e_M112 : f_Q_push_m M0 (M0 5 8) = M112 at t_ ⊢
      have s_M112 := t_
      have s_M113 : SC d ρ (mst M112 5 8 ((8 : Int32) * a1)) := SC.sa s_M112 (by decide)
      generalize e_M113 : mst M112 5 8 ((8 : Int32) * a1) = M113 at s_M113 ⊢
      exact so_Q_doHighest_j1 (d := d) (ρ := ρ) M113 s_M113 hQ
    · skip
      refine ps_nrn hc2 ?_
      (try simp only [if_neg hc2])
      by_cases hc3 : a2 = (5 : Int32)
      · skip
        refine ps_nrp hc3 ?_
        (try simp only [if_pos hc3])
        by_cases hc4 : (a1 &&& (1 : Int32)) = 0
        · skip
          refine ps_nrp hc4 ?_
          (try simp only [if_pos hc4])
          have t_ := so_Q_stackPair (d := d) (ρ := ρ) M0 (a1 >>> ((1 : Int32) &&& (31 : Int32))) s_M0 
          refine ps_and t_.1 ?_
          replace t_ := t_.2
          refine ps_let ?_
          generalize e_x110 : f_Q_stackPair_v M0 (a1 >>> ((1 : Int32) &&& (31 : Int32))) = x110 at t_ ⊢
          have t_ := so_Q_push (d := d) (ρ := ρ) M0 x110 s_M0 
          refine And.intro t_.1 ?_
          replace t_ := t_.2
          generalize e_M111 : f_Q_push_m M0 x110 = M111 at t_ ⊢
          have s_M111 := t_
          exact so_Q_doHighest_j1 (d := d) (ρ := ρ) M111 s_M111 hQ
        · skip
          refine ps_nrn hc4 ?_
          (try simp only [if_neg hc4])
          exact so_Q_doHighest_j2 (d := d) (ρ := ρ) M0 a1 a2 s_M0 hQ
      · skip
        refine ps_nrn hc3 ?_
        (try simp only [if_neg hc3])
        exact so_Q_doHighest_j2 (d := d) (ρ := ρ) M0 a1 a2 s_M0 hQ
theorem so_Q_doHighest {d : Int32} {ρ : Nat → Int32} (M0 : Mem) (a1 : Int32) (a2 : Int32) (s_M0 : SC d ρ M0) : ok_Q_doHighest M0 a1 a2 ∧ SC d ρ (f_Q_doHighest_m M0 a1 a2) := sq_Q_doHighest (d := d) (ρ := ρ) (Q := fun M' => SC d ρ M') M0 a1 a2 s_M0  (fun _ h0 => h0)
set_option maxRecDepth 100000 in
set_option maxHeartbeats 4000000 in
theorem sq_Q_finish {d : Int32} {ρ : Nat → Int32} {Q : Mem → Prop} (M0 : Mem) (s_M0 : SC d ρ M0) (hQ : ∀ (M' : Mem), SC d ρ M' → Q M') : ok_Q_finish M0 ∧ Q (f_Q_finish_m M0) := by
  unfold ok_Q_finish f_Q_finish_m
  (try dsimp only)
  by_cases hc1 : (M0 5 5) = 0
  · skip
    refine ps_brp hc1 ?_
    (try simp only [if_pos hc1])
    refine ps_let ?_
    have s_M1 : SC d ρ (mst M0 5 1 ((M0 5 1) + (1 : Int32))) := SC.sa s_M0 (by decide)
    generalize e_M1 : mst M0 5 1 ((M0 5 1) + (1 : Int32)) = M1 at s_M1 ⊢
    refine ps_let ?_
    have s_M2 : SC d ρ (mst M1 5 0 ((M1 5 0) + (M1 5 10))) := SC.sa s_M1 (by decide)
    generalize e_M2 : mst M1 5 0 ((M1 5 0) + (M1 5 10)) = M2 at s_M2 ⊢
    have t_ := so_P_pass (d := d) (ρ := ρ) M2 (M2 5 10) s_M2 
    refine And.intro t_.1 ?_
    replace t_ := t_.2
    generalize e_M3 : f_P_pass_m M2 (M2 5 10) = M3 at t_ ⊢
    have s_M3 := t_
    exact hQ _ s_M3
  · skip
    refine ps_brn hc1 ?_
    refine And.intro trivial ?_
    (try simp only [if_neg hc1])
    exact hQ _ s_M0
theorem so_Q_finish {d : Int32} {ρ : Nat → Int32} (M0 : Mem) (s_M0 : SC d ρ M0) : ok_Q_finish M0 ∧ SC d ρ (f_Q_finish_m M0) := sq_Q_finish (d := d) (ρ := ρ) (Q := fun M' => SC d ρ M') M0 s_M0  (fun _ h0 => h0)
set_option maxRecDepth 100000 in
set_option maxHeartbeats 4000000 in
theorem so_Q_step_j2 {d : Int32} {ρ : Nat → Int32} {Q : Mem → Prop} (M108 : Mem) (s_M108 : SC d ρ M108) (hQ : ∀ (M' : Mem), SC d ρ M' → Q M') : ok_Q_step_j2 M108 ∧ Q (f_Q_step_j2_m M108) := by
  unfold ok_Q_step_j2 f_Q_step_j2_m
  (try dsimp only)
  have t_ := so_Q_finish (d := d) (ρ := ρ) M108 s_M108 
  refine And.intro t_.1 ?_
  replace t_ := t_.2
  generalize e_M109 : f_Q_finish_m M108 = M109 at t_ ⊢
  have s_M109 := t_
  exact hQ _ s_M109
set_option maxRecDepth 100000 in
set_option maxHeartbeats 4000000 in
theorem so_Q_step_j4 {d : Int32} {ρ : Nat → Int32} {Q : Mem → Prop} (M73 : Mem) (x125 : Int32) (s_M73 : SC d ρ M73) (hp0 : isB x125) (hQ : ∀ (M' : Mem), SC d ρ M' → Q M') : ok_Q_step_j4 M73 x125 ∧ Q (f_Q_step_j4_m M73 x125) := by
  unfold ok_Q_step_j4 f_Q_step_j4_m
  (try dsimp only)
  refine ps_and (by assumption) ?_
  refine ps_let ?_
  have s_M126 : SC d ρ (mst M73 5 3 x125) := SC.sa s_M73 (by decide)
  generalize e_M126 : mst M73 5 3 x125 = M126 at s_M126 ⊢
  refine ps_let ?_
  have s_M127 : SC d ρ (mst M126 5 9 (0 : Int32)) := SC.sa s_M126 (by decide)
  generalize e_M127 : mst M126 5 9 (0 : Int32) = M127 at s_M127 ⊢
  have t_ := so_Q_fetch (d := d) (ρ := ρ) M127 s_M127 
  refine ps_and t_.1 ?_
  replace t_ := t_.2
  refine ps_let ?_
  refine ps_let ?_
  generalize e_x128 : f_Q_fetch_v M127 = x128 at t_ ⊢
  generalize e_M129 : f_Q_fetch_m M127 = M129 at t_ ⊢
  have s_M129 := t_
  refine ps_let ?_
  generalize e_x130 : ((x128 >>> ((3 : Int32) &&& (31 : Int32))) &&& (7 : Int32)) = x130
  refine ps_let ?_
  generalize e_x131 : (x128 &&& (7 : Int32)) = x131
  by_cases hc1 : ((x128 >>> ((6 : Int32) &&& (31 : Int32))) = (0 : Int32))
  · skip
    refine ps_brp hc1 ?_
    (try simp only [if_pos hc1])
    have t_ := so_Q_doLow (d := d) (ρ := ρ) M129 x130 x131 s_M129 
    refine ps_and t_.1 ?_
    replace t_ := t_.2
    refine ps_let ?_
    generalize e_M132 : f_Q_doLow_m M129 x130 x131 = M132 at t_ ⊢
    have s_M132 := t_
    exact so_Q_step_j2 (d := d) (ρ := ρ) M132 s_M132 hQ
  · skip
    refine ps_brn hc1 ?_
    (try simp only [if_neg hc1])
    by_cases hc2 : ((x128 >>> ((6 : Int32) &&& (31 : Int32))) = (1 : Int32))
    · skip
      refine ps_brp hc2 ?_
      (try simp only [if_pos hc2])
      have t_ := so_Q_doCopy (d := d) (ρ := ρ) M129 x130 x131 s_M129 
      refine ps_and t_.1 ?_
      replace t_ := t_.2
      refine ps_let ?_
      generalize e_M133 : f_Q_doCopy_m M129 x130 x131 = M133 at t_ ⊢
      have s_M133 := t_
      exact so_Q_step_j2 (d := d) (ρ := ρ) M133 s_M133 hQ
    · skip
      refine ps_brn hc2 ?_
      (try simp only [if_neg hc2])
      by_cases hc3 : ((x128 >>> ((6 : Int32) &&& (31 : Int32))) = (2 : Int32))
      · skip
        refine ps_brp hc3 ?_
        (try simp only [if_pos hc3])
        have t_ := so_Q_octetAt (d := d) (ρ := ρ) M129 x131 s_M129 
        refine ps_and t_.1 ?_
        replace t_ := t_.2
        refine ps_let ?_
        refine ps_let ?_
        generalize e_x134 : f_Q_octetAt_v M129 x131 = x134 at t_ ⊢
        generalize e_M135 : f_Q_octetAt_m M129 x131 = M135 at t_ ⊢
        have s_M135 := t_
        have t_ := so_Q_combine (d := d) (ρ := ρ) M135 x130 x134 s_M135 
        refine ps_let ?_
        generalize e_M136 : f_Q_combine_m M135 x130 x134 = M136 at t_ ⊢
        have s_M136 := t_
        exact so_Q_step_j2 (d := d) (ρ := ρ) M136 s_M136 hQ
      · skip
        refine ps_brn hc3 ?_
        (try simp only [if_neg hc3])
        by_cases hc4 : x128 = (203 : Int32)
        · skip
          refine ps_nrp hc4 ?_
          (try simp only [if_pos hc4])
          have t_ := so_Q_doPrefixed (d := d) (ρ := ρ) M129 s_M129 
          refine ps_and t_.1 ?_
          replace t_ := t_.2
          refine ps_let ?_
          generalize e_M139 : f_Q_doPrefixed_m M129 = M139 at t_ ⊢
          have s_M139 := t_
          exact so_Q_step_j2 (d := d) (ρ := ρ) M139 s_M139 hQ
        · skip
          refine ps_nrn hc4 ?_
          (try simp only [if_neg hc4])
          by_cases hc5 : (4 : Int32) ≤ x131
          · skip
            refine ps_brp hc5 ?_
            (try simp only [if_pos hc5])
            have t_ := so_Q_doHighest (d := d) (ρ := ρ) M129 x130 x131 s_M129 
            refine ps_and t_.1 ?_
            replace t_ := t_.2
            refine ps_let ?_
            generalize e_M137 : f_Q_doHighest_m M129 x130 x131 = M137 at t_ ⊢
            have s_M137 := t_
            exact so_Q_step_j2 (d := d) (ρ := ρ) M137 s_M137 hQ
          · skip
            refine ps_brn hc5 ?_
            (try simp only [if_neg hc5])
            have t_ := so_Q_doHigh (d := d) (ρ := ρ) M129 x130 x131 s_M129 
            refine ps_and t_.1 ?_
            replace t_ := t_.2
            refine ps_let ?_
            generalize e_M138 : f_Q_doHigh_m M129 x130 x131 = M138 at t_ ⊢
            have s_M138 := t_
            exact so_Q_step_j2 (d := d) (ρ := ρ) M138 s_M138 hQ
set_option maxRecDepth 100000 in
set_option maxHeartbeats 4000000 in
theorem so_Q_step_j5 {d : Int32} {ρ : Nat → Int32} {Q : Mem → Prop} (M73 : Mem) (s_M73 : SC d ρ M73) (hQ : ∀ (M' : Mem), SC d ρ M' → Q M') : ok_Q_step_j5 M73 ∧ Q (f_Q_step_j5_m M73) := by
  unfold ok_Q_step_j5 f_Q_step_j5_m
  (try dsimp only)
  exact so_Q_step_j4 (d := d) (ρ := ρ) M73 (1 : Int32) s_M73 (by exact isB_1) hQ
set_option maxRecDepth 100000 in
set_option maxHeartbeats 4000000 in
theorem so_Q_step_j3 {d : Int32} {ρ : Nat → Int32} {Q : Mem → Prop} (M73 : Mem) (s_M73 : SC d ρ M73) (hQ : ∀ (M' : Mem), SC d ρ M' → Q M') : ok_Q_step_j3 M73 ∧ Q (f_Q_step_j3_m M73) := by
  unfold ok_Q_step_j3 f_Q_step_j3_m
  (try dsimp only)
  by_cases hc1 : (M73 5 4) = 0
  · skip
    refine ps_brp hc1 ?_
    (try simp only [if_pos hc1])
    by_cases hc2 : (M73 5 3) = 0
    · skip
      refine ps_nrp hc2 ?_
      (try simp only [if_pos hc2])
      by_cases hc3 : (M73 5 9) = 0
      · skip
        refine ps_brp hc3 ?_
        (try simp only [if_pos hc3])
        exact so_Q_step_j4 (d := d) (ρ := ρ) M73 (0 : Int32) s_M73 (by exact isB_0) hQ
      · skip
        refine ps_brn hc3 ?_
        (try simp only [if_neg hc3])
        exact so_Q_step_j5 (d := d) (ρ := ρ) M73 s_M73 hQ
    · skip
      refine ps_nrn hc2 ?_
      (try simp only [if_neg hc2])
      exact so_Q_step_j5 (d := d) (ρ := ρ) M73 s_M73 hQ
  · skip
    refine ps_brn hc1 ?_
    (try simp only [if_neg hc1])
    have t_ := so_Q_passHalted (d := d) (ρ := ρ) M73 s_M73 
    refine And.intro t_.1 ?_
    replace t_ := t_.2
    generalize e_M140 : f_Q_passHalted_m M73 = M140 at t_ ⊢
    have s_M140 := t_
    exact hQ _ s_M140
set_option maxRecDepth 100000 in
set_option maxHeartbeats 4000000 in
theorem so_Q_step_j1 {d : Int32} {ρ : Nat → Int32} {Q : Mem → Prop} (x1 : Int32) (M73 : Mem) (s_M73 : SC d ρ M73) (hQ : ∀ (M' : Mem), SC d ρ M' → Q M') : ok_Q_step_j1 x1 M73 ∧ Q (f_Q_step_j1_m x1 M73) := by
  unfold ok_Q_step_j1 f_Q_step_j1_m
  (try dsimp only)
  by_cases hc1 : x1 = 0
  · skip
    refine ps_brp hc1 ?_
    (try simp only [if_pos hc1])
    exact so_Q_step_j3 (d := d) (ρ := ρ) M73 s_M73 hQ
  · skip
    refine ps_brn hc1 ?_
    (try simp only [if_neg hc1])
    by_cases hc2 : (M73 5 3) = 0
    · skip
      refine ps_brp hc2 ?_
      (try simp only [if_pos hc2])
      exact so_Q_step_j3 (d := d) (ρ := ρ) M73 s_M73 hQ
    · skip
      refine ps_brn hc2 ?_
      (try simp only [if_neg hc2])
      have t_ := so_Q_takeInterrupt (d := d) (ρ := ρ) M73 x1 s_M73 
      refine ps_and t_.1 ?_
      replace t_ := t_.2
      refine ps_let ?_
      generalize e_M141 : f_Q_takeInterrupt_m M73 x1 = M141 at t_ ⊢
      have s_M141 := t_
      exact so_Q_step_j2 (d := d) (ρ := ρ) M141 s_M141 hQ
set_option maxRecDepth 100000 in
set_option maxHeartbeats 4000000 in
theorem sq_Q_step {d : Int32} {ρ : Nat → Int32} {Q : Mem → Prop} (M0 : Mem) (s_M0 : SC d ρ M0) (hQ : ∀ (M' : Mem), SC d ρ M' → Q M') : ok_Q_step M0 ∧ Q (f_Q_step_m M0) := by
  unfold ok_Q_step f_Q_step_m
  (try dsimp only)
  have t_ := so_P_waiting (d := d) (ρ := ρ) M0 s_M0 
  refine ps_let ?_
  generalize e_x1 : f_P_waiting_v M0 = x1 at t_ ⊢
  refine ps_let ?_
  have s_M2 : SC d ρ (mst M0 5 10 (0 : Int32)) := SC.sa s_M0 (by decide)
  generalize e_M2 : mst M0 5 10 (0 : Int32) = M2 at s_M2 ⊢
  by_cases hc1 : x1 = 0
  · skip
    refine ps_brp hc1 ?_
    (try simp only [if_pos hc1])
    exact so_Q_step_j1 (d := d) (ρ := ρ) x1 M2 s_M2 hQ
  · skip
    refine ps_brn hc1 ?_
    (try simp only [if_neg hc1])
    refine ps_let ?_
    have s_M142 : SC d ρ (mst M2 5 4 (0 : Int32)) := SC.sa s_M2 (by decide)
    generalize e_M142 : mst M2 5 4 (0 : Int32) = M142 at s_M142 ⊢
    exact so_Q_step_j1 (d := d) (ρ := ρ) x1 M142 s_M142 hQ
theorem so_Q_step {d : Int32} {ρ : Nat → Int32} (M0 : Mem) (s_M0 : SC d ρ M0) : ok_Q_step M0 ∧ SC d ρ (f_Q_step_m M0) := sq_Q_step (d := d) (ρ := ρ) (Q := fun M' => SC d ρ M') M0 s_M0  (fun _ h0 => h0)
set_option maxRecDepth 100000 in
set_option maxHeartbeats 4000000 in
theorem so_Q_valueOf_j1 {d : Int32} {ρ : Nat → Int32} {Q : Int32 → Prop} (x2 : Int32) (hQ : ∀ (x : Int32), Q x) : Q (f_Q_valueOf_j1_v x2) := by
  unfold f_Q_valueOf_j1_v
  (try dsimp only)
  exact hQ _
set_option maxRecDepth 100000 in
set_option maxHeartbeats 4000000 in
theorem sq_Q_valueOf {d : Int32} {ρ : Nat → Int32} {Q : Int32 → Prop} (M0 : Mem) (a1 : Int32) (s_M0 : SC d ρ M0) (hQ : ∀ (x : Int32), Q x) : ok_Q_valueOf M0 a1 ∧ Q (f_Q_valueOf_v M0 a1) := by
  unfold ok_Q_valueOf f_Q_valueOf_v
  (try dsimp only)
  by_cases hc1 : (8 : Int32) ≤ a1
  · skip
    refine ps_brp hc1 ?_
    refine And.intro trivial ?_
    (try simp only [if_pos hc1])
    by_cases hc2 : a1 = (8 : Int32)
    · skip
      (try simp only [if_pos hc2])
      exact so_Q_valueOf_j1 (d := d) (ρ := ρ) (M0 5 7) hQ
    · skip
      (try simp only [if_neg hc2])
      exact so_Q_valueOf_j1 (d := d) (ρ := ρ) (M0 5 8) hQ
  · skip
    refine ps_brn hc1 ?_
    (try simp only [if_neg hc1])
    refine ps_and (by exact vp_and (by decide)) ?_
    refine And.intro (by exact tvc1_in _) ?_
    exact hQ _
theorem so_Q_valueOf {d : Int32} {ρ : Nat → Int32} (M0 : Mem) (a1 : Int32) (s_M0 : SC d ρ M0) : ok_Q_valueOf M0 a1 ∧ True := sq_Q_valueOf (d := d) (ρ := ρ) (Q := fun _ => True) M0 a1 s_M0  (fun _ => trivial)
set_option maxRecDepth 100000 in
set_option maxHeartbeats 4000000 in
theorem so_Q_put_j1 {d : Int32} {ρ : Nat → Int32} {Q : Mem → Prop} (M6 : Mem) (s_M6 : SC d ρ M6) (hQ : ∀ (M' : Mem), SC d ρ M' → Q M') : Q (f_Q_put_j1_m M6) := by
  unfold f_Q_put_j1_m
  (try dsimp only)
  exact hQ _ s_M6
set_option maxRecDepth 100000 in
set_option maxHeartbeats 4000000 in
theorem sq_Q_put {d : Int32} {ρ : Nat → Int32} {Q : Mem → Prop} (M0 : Mem) (a1 : Int32) (a2 : Int32) (s_M0 : SC d ρ M0) (hQ : ∀ (M' : Mem), SC d ρ M' → Q M') : ok_Q_put M0 a1 a2 ∧ Q (f_Q_put_m M0 a1 a2) := by
  unfold ok_Q_put f_Q_put_m
  (try dsimp only)
  by_cases hc1 : a1 = (1 : Int32)
  · skip
    refine ps_nrp hc1 ?_
    refine And.intro trivial ?_
    (try simp only [if_pos hc1])
    have s_M10 : SC d ρ (mst M0 17 6 (a2 &&& (240 : Int32))) := SC.sa s_M0 (by decide)
    generalize e_M10 : mst M0 17 6 (a2 &&& (240 : Int32)) = M10 at s_M10 ⊢
    exact so_Q_put_j1 (d := d) (ρ := ρ) M10 s_M10 hQ
  · skip
    refine ps_nrn hc1 ?_
    (try simp only [if_neg hc1])
    by_cases hc2 : (8 : Int32) ≤ a1
    · skip
      refine ps_brp hc2 ?_
      refine And.intro trivial ?_
      (try simp only [if_pos hc2])
      by_cases hc3 : a1 = (8 : Int32)
      · skip
        (try simp only [if_pos hc3])
        have s_M8 : SC d ρ (mst M0 5 7 (a2 &&& (65535 : Int32))) := SC.sa s_M0 (by decide)
        generalize e_M8 : mst M0 5 7 (a2 &&& (65535 : Int32)) = M8 at s_M8 ⊢
        exact so_Q_put_j1 (d := d) (ρ := ρ) M8 s_M8 hQ
      · skip
        (try simp only [if_neg hc3])
        have s_M7 : SC d ρ (mst M0 5 8 (a2 &&& (65535 : Int32))) := SC.sa s_M0 (by decide)
        generalize e_M7 : mst M0 5 8 (a2 &&& (65535 : Int32)) = M7 at s_M7 ⊢
        exact so_Q_put_j1 (d := d) (ρ := ρ) M7 s_M7 hQ
    · skip
      refine ps_brn hc2 ?_
      (try simp only [if_neg hc2])
      refine ps_and (by exact vp_and (by decide)) ?_
      refine And.intro (by exact tvc1_in _) ?_
      have s_M9 : SC d ρ (mst M0 17 ((tv_c1 ((a1 &&& (7 : Int32))).toNatClampNeg)).toNatClampNeg (a2 &&& (255 : Int32))) := SC.sa s_M0 (by decide)
      generalize e_M9 : mst M0 17 ((tv_c1 ((a1 &&& (7 : Int32))).toNatClampNeg)).toNatClampNeg (a2 &&& (255 : Int32)) = M9 at s_M9 ⊢
      exact so_Q_put_j1 (d := d) (ρ := ρ) M9 s_M9 hQ
theorem so_Q_put {d : Int32} {ρ : Nat → Int32} (M0 : Mem) (a1 : Int32) (a2 : Int32) (s_M0 : SC d ρ M0) : ok_Q_put M0 a1 a2 ∧ SC d ρ (f_Q_put_m M0 a1 a2) := sq_Q_put (d := d) (ρ := ρ) (Q := fun M' => SC d ρ M') M0 a1 a2 s_M0  (fun _ h0 => h0)
set_option maxRecDepth 100000 in
set_option maxHeartbeats 4000000 in
theorem so_S_has_j1 {d : Int32} {ρ : Nat → Int32} {Q : Int32 → Prop} (x2 : Int32) (hp0 : isB x2) (hQ : ∀ (x : Int32), Q x) : ok_S_has_j1 x2 ∧ Q (f_S_has_j1_v x2) := by
  unfold ok_S_has_j1 f_S_has_j1_v
  (try dsimp only)
  refine And.intro (by assumption) ?_
  exact hQ _
set_option maxRecDepth 100000 in
set_option maxHeartbeats 4000000 in
theorem sq_S_has {d : Int32} {ρ : Nat → Int32} {Q : Int32 → Prop} (M0 : Mem) (a1 : Int32) (s_M0 : SC d ρ M0) (hQ : ∀ (x : Int32), Q x) : ok_S_has M0 a1 ∧ Q (f_S_has_v M0 a1) := by
  unfold ok_S_has f_S_has_v
  (try dsimp only)
  by_cases hc1 : ((M0 8 64) &&& a1) = 0
  · skip
    refine ps_brp hc1 ?_
    (try simp only [if_pos hc1])
    exact so_S_has_j1 (d := d) (ρ := ρ) (0 : Int32) (by exact isB_0) hQ
  · skip
    refine ps_brn hc1 ?_
    (try simp only [if_neg hc1])
    exact so_S_has_j1 (d := d) (ρ := ρ) (1 : Int32) (by exact isB_1) hQ
theorem so_S_has {d : Int32} {ρ : Nat → Int32} (M0 : Mem) (a1 : Int32) (s_M0 : SC d ρ M0) : ok_S_has M0 a1 ∧ True := sq_S_has (d := d) (ρ := ρ) (Q := fun _ => True) M0 a1 s_M0  (fun _ => trivial)
set_option maxRecDepth 100000 in
set_option maxHeartbeats 4000000 in
theorem sq_S_numberAt {d : Int32} {ρ : Nat → Int32} {Q : Int32 → Prop} (M0 : Mem) (a1 : Int32) (a2 : Int32) (s_M0 : SC d ρ M0) (hQ : ∀ (x : Int32), Q x) : ok_S_numberAt M0 a1 a2 ∧ Q (f_S_numberAt_v M0 a1 a2) := by
  unfold ok_S_numberAt f_S_numberAt_v
  (try dsimp only)
  refine ps_and (by exact vp_and (by decide)) ?_
  refine ps_let ?_
  generalize e_x1 : (((M0 9 ((a1 &&& (8191 : Int32))).toNatClampNeg) >>> (a2 &&& (31 : Int32))) &&& (1 : Int32)) = x1
  refine And.intro (by exact vp_and (by decide)) ?_
  generalize e_x2 : (((M0 9 (((a1 + (1 : Int32)) &&& (8191 : Int32))).toNatClampNeg) >>> (a2 &&& (31 : Int32))) &&& (1 : Int32)) = x2
  exact hQ _
theorem so_S_numberAt {d : Int32} {ρ : Nat → Int32} (M0 : Mem) (a1 : Int32) (a2 : Int32) (s_M0 : SC d ρ M0) : ok_S_numberAt M0 a1 a2 ∧ True := sq_S_numberAt (d := d) (ρ := ρ) (Q := fun _ => True) M0 a1 a2 s_M0  (fun _ => trivial)
set_option maxRecDepth 100000 in
set_option maxHeartbeats 4000000 in
theorem so_S_placeSprite_j4 {d : Int32} {ρ : Nat → Int32} {Q : Mem → Prop} (x131 : Int32) (n : Nat) (K1_m : Int32 → Mem → Mem) (K1_ok : Int32 → Mem → Prop) (M162 : Mem) (s_M162 : SC d ρ M162) (hp0 : 0 ≤ (x131).toInt) (hp1 : (x131).toInt < 8) (hp2 : 8 < (x131).toInt + (n + 1)) (hK1 : ∀ (z0 : Int32) (z1 : Mem), SC d ρ z1 → 0 ≤ (z0).toInt → (z0).toInt ≤ 8 → 8 < (z0).toInt + n → K1_ok z0 z1 ∧ Q (K1_m z0 z1)) (hQ : ∀ (M' : Mem), SC d ρ M' → Q M') : ok_S_placeSprite_j4 x131 K1_ok M162 ∧ Q (f_S_placeSprite_j4_m x131 K1_m M162) := by
  unfold ok_S_placeSprite_j4 f_S_placeSprite_j4_m
  (try dsimp only)
  refine ps_let ?_
  generalize e_x163 : x131 + (1 : Int32) = x163
  have a_x163 : x163.toInt = x131.toInt + 1 := by rw [← e_x163, ti_add (by (try simp only [ti_le, ti_lt, Int32.reduceToInt] at *) <;> omega) (by (try simp only [ti_le, ti_lt, Int32.reduceToInt] at *) <;> omega)]; rfl
  exact hK1 x163 M162 s_M162 (by first | assumption | ((try simp only [ti_le, ti_lt, Int32.reduceToInt] at *) <;> omega)) (by first | assumption | ((try simp only [ti_le, ti_lt, Int32.reduceToInt] at *) <;> omega)) (by first | assumption | ((try simp only [ti_le, ti_lt, Int32.reduceToInt] at *) <;> omega))
set_option maxRecDepth 100000 in
set_option maxHeartbeats 4000000 in
theorem so_S_placeSprite_j5 {d : Int32} {ρ : Nat → Int32} {Q : Mem → Prop} (x1 : Int32) (x87 : Int32) (x131 : Int32) (M132 : Mem) (x133 : Int32) (x153 : Int32) (n : Nat) (K1_m : Int32 → Mem → Mem) (K1_ok : Int32 → Mem → Prop) (s_M132 : SC d ρ M132) (hp0 : vp_in x133 160) (hp1 : 0 ≤ (x131).toInt) (hp2 : (x131).toInt < 8) (hp3 : 8 < (x131).toInt + (n + 1)) (hK1 : ∀ (z0 : Int32) (z1 : Mem), SC d ρ z1 → 0 ≤ (z0).toInt → (z0).toInt ≤ 8 → 8 < (z0).toInt + n → K1_ok z0 z1 ∧ Q (K1_m z0 z1)) (hQ : ∀ (M' : Mem), SC d ρ M' → Q M') : ok_S_placeSprite_j5 x1 x87 x131 M132 x133 x153 K1_ok ∧ Q (f_S_placeSprite_j5_m x1 x87 x131 M132 x133 x153 K1_m) := by
  unfold ok_S_placeSprite_j5 f_S_placeSprite_j5_m
  (try dsimp only)
  refine ps_and (by first | assumption | (rw [vp_iff]; constructor <;> ((try simp only [ti_le, ti_lt, Int32.reduceToInt] at *) <;> omega))) ?_
  refine ps_let ?_
  have s_M167 : SC d ρ (mst M132 14 x133.toNatClampNeg x153) := SC.sa s_M132 (by decide)
  generalize e_M167 : mst M132 14 x133.toNatClampNeg x153 = M167 at s_M167 ⊢
  refine ps_and (by first | assumption | (rw [vp_iff]; constructor <;> ((try simp only [ti_le, ti_lt, Int32.reduceToInt] at *) <;> omega))) ?_
  refine ps_let ?_
  have s_M168 : SC d ρ (mst M167 15 x133.toNatClampNeg x1) := SC.sa s_M167 (by decide)
  generalize e_M168 : mst M167 15 x133.toNatClampNeg x1 = M168 at s_M168 ⊢
  refine ps_and (by first | assumption | (rw [vp_iff]; constructor <;> ((try simp only [ti_le, ti_lt, Int32.reduceToInt] at *) <;> omega))) ?_
  refine ps_let ?_
  have s_M169 : SC d ρ (mst M168 16 x133.toNatClampNeg x87) := SC.sa s_M168 (by decide)
  generalize e_M169 : mst M168 16 x133.toNatClampNeg x87 = M169 at s_M169 ⊢
  exact so_S_placeSprite_j4 (d := d) (ρ := ρ) x131 n _ _ M169 s_M169 (by first | assumption | ((try simp only [ti_le, ti_lt, Int32.reduceToInt] at *) <;> omega)) (by first | assumption | ((try simp only [ti_le, ti_lt, Int32.reduceToInt] at *) <;> omega)) (by first | assumption | ((try simp only [ti_le, ti_lt, Int32.reduceToInt] at *) <;> omega)) hK1 hQ
set_option maxRecDepth 100000 in
set_option maxHeartbeats 4000000 in
theorem so_S_placeSprite_j3 {d : Int32} {ρ : Nat → Int32} {Q : Mem → Prop} (x1 : Int32) (x87 : Int32) (x130 : Int32) (x131 : Int32) (M132 : Mem) (x133 : Int32) (n : Nat) (K1_m : Int32 → Mem → Mem) (K1_ok : Int32 → Mem → Prop) (x152 : Int32) (s_M132 : SC d ρ M132) (hp0 : 0 ≤ (x131).toInt) (hp1 : (x131).toInt < 8) (hp2 : 8 < (x131).toInt + (n + 1)) (hK1 : ∀ (z0 : Int32) (z1 : Mem), SC d ρ z1 → 0 ≤ (z0).toInt → (z0).toInt ≤ 8 → 8 < (z0).toInt + n → K1_ok z0 z1 ∧ Q (K1_m z0 z1)) (hQ : ∀ (M' : Mem), SC d ρ M' → Q M') : ok_S_placeSprite_j3 x1 x87 x130 x131 M132 x133 K1_ok x152 ∧ Q (f_S_placeSprite_j3_m x1 x87 x130 x131 M132 x133 K1_m x152) := by
  unfold ok_S_placeSprite_j3 f_S_placeSprite_j3_m
  (try dsimp only)
  have t_ := so_S_numberAt (d := d) (ρ := ρ) M132 x130 x152 s_M132 
  refine ps_and t_.1 ?_
  replace t_ := t_.2
  refine ps_let ?_
  generalize e_x153 : f_S_numberAt_v M132 x130 x152 = x153 at t_ ⊢
  by_cases hc1 : x133 < 0
  · skip
    refine ps_brp hc1 ?_
    (try simp only [if_pos hc1])
    exact so_S_placeSprite_j4 (d := d) (ρ := ρ) x131 n _ _ M132 s_M132 (by first | assumption | ((try simp only [ti_le, ti_lt, Int32.reduceToInt] at *) <;> omega)) (by first | assumption | ((try simp only [ti_le, ti_lt, Int32.reduceToInt] at *) <;> omega)) (by first | assumption | ((try simp only [ti_le, ti_lt, Int32.reduceToInt] at *) <;> omega)) hK1 hQ
  · skip
    refine ps_brn hc1 ?_
    (try simp only [if_neg hc1])
    by_cases hc2 : (160 : Int32) ≤ x133
    · skip
      refine ps_brp hc2 ?_
      (try simp only [if_pos hc2])
      exact so_S_placeSprite_j4 (d := d) (ρ := ρ) x131 n _ _ M132 s_M132 (by first | assumption | ((try simp only [ti_le, ti_lt, Int32.reduceToInt] at *) <;> omega)) (by first | assumption | ((try simp only [ti_le, ti_lt, Int32.reduceToInt] at *) <;> omega)) (by first | assumption | ((try simp only [ti_le, ti_lt, Int32.reduceToInt] at *) <;> omega)) hK1 hQ
    · skip
      refine ps_brn hc2 ?_
      (try simp only [if_neg hc2])
      by_cases hc3 : x153 = 0
      · skip
        refine ps_brp hc3 ?_
        (try simp only [if_pos hc3])
        exact so_S_placeSprite_j4 (d := d) (ρ := ρ) x131 n _ _ M132 s_M132 (by first | assumption | ((try simp only [ti_le, ti_lt, Int32.reduceToInt] at *) <;> omega)) (by first | assumption | ((try simp only [ti_le, ti_lt, Int32.reduceToInt] at *) <;> omega)) (by first | assumption | ((try simp only [ti_le, ti_lt, Int32.reduceToInt] at *) <;> omega)) hK1 hQ
      · skip
        refine ps_brn hc3 ?_
        (try simp only [if_neg hc3])
        refine ps_and (by first | assumption | (rw [vp_iff]; constructor <;> ((try simp only [ti_le, ti_lt, Int32.reduceToInt] at *) <;> omega))) ?_
        by_cases hc4 : (M132 14 x133.toNatClampNeg) = 0
        · skip
          refine ps_brp hc4 ?_
          (try simp only [if_pos hc4])
          exact so_S_placeSprite_j5 (d := d) (ρ := ρ) x1 x87 x131 M132 x133 x153 n _ _ s_M132 (by first | assumption | (rw [vp_iff]; constructor <;> ((try simp only [ti_le, ti_lt, Int32.reduceToInt] at *) <;> omega))) (by first | assumption | ((try simp only [ti_le, ti_lt, Int32.reduceToInt] at *) <;> omega)) (by first | assumption | ((try simp only [ti_le, ti_lt, Int32.reduceToInt] at *) <;> omega)) (by first | assumption | ((try simp only [ti_le, ti_lt, Int32.reduceToInt] at *) <;> omega)) hK1 hQ
        · skip
          refine ps_brn hc4 ?_
          (try simp only [if_neg hc4])
          refine ps_and (by first | assumption | (rw [vp_iff]; constructor <;> ((try simp only [ti_le, ti_lt, Int32.reduceToInt] at *) <;> omega))) ?_
          by_cases hc5 : (M132 15 x133.toNatClampNeg) ≤ x1
          · skip
            refine ps_brp hc5 ?_
            (try simp only [if_pos hc5])
            exact so_S_placeSprite_j4 (d := d) (ρ := ρ) x131 n _ _ M132 s_M132 (by first | assumption | ((try simp only [ti_le, ti_lt, Int32.reduceToInt] at *) <;> omega)) (by first | assumption | ((try simp only [ti_le, ti_lt, Int32.reduceToInt] at *) <;> omega)) (by first | assumption | ((try simp only [ti_le, ti_lt, Int32.reduceToInt] at *) <;> omega)) hK1 hQ
          · skip
            refine ps_brn hc5 ?_
            (try simp only [if_neg hc5])
            exact so_S_placeSprite_j5 (d := d) (ρ := ρ) x1 x87 x131 M132 x133 x153 n _ _ s_M132 (by first | assumption | (rw [vp_iff]; constructor <;> ((try simp only [ti_le, ti_lt, Int32.reduceToInt] at *) <;> omega))) (by first | assumption | ((try simp only [ti_le, ti_lt, Int32.reduceToInt] at *) <;> omega)) (by first | assumption | ((try simp only [ti_le, ti_lt, Int32.reduceToInt] at *) <;> omega)) (by first | assumption | ((try simp only [ti_le, ti_lt, Int32.reduceToInt] at *) <;> omega)) hK1 hQ
set_option maxRecDepth 100000 in
set_option maxHeartbeats 4000000 in
theorem so_S_placeSprite_l1 {d : Int32} {ρ : Nat → Int32} {Q : Mem → Prop} (x1 : Int32) (x87 : Int32) (x130 : Int32) (hQ : ∀ (M' : Mem), SC d ρ M' → Q M') : ∀ (n : Nat) (x131 : Int32) (M132 : Mem), SC d ρ M132 → 0 ≤ (x131).toInt → (x131).toInt ≤ 8 → 8 < (x131).toInt + n → ok_S_placeSprite_l1 x1 x87 x130 n x131 M132 ∧ Q (f_S_placeSprite_l1_m x1 x87 x130 n x131 M132) := by
  intro n
  induction n with
  | zero =>
    intro x131 M132 s_M132 hL0 hL1 hL2
    exact False.elim (by (try simp only [ti_le, ti_lt, Int32.reduceToInt] at *) <;> omega)
  | succ n ih =>
    intro x131 M132 s_M132 hL0 hL1 hL2
    have hK1 := ih
    show (((((8 : Int32) ≤ x131) → True) ∧ ((¬ (8 : Int32) ≤ x131) → ∀ x133 : Int32, x133 = ((x1 - (8 : Int32)) + x131) → ((((x87 &&& (32 : Int32)) = 0) → ok_S_placeSprite_j3 x1 x87 x130 x131 M132 x133 (ok_S_placeSprite_l1 x1 x87 x130 n) ((7 : Int32) - x131)) ∧ ((¬ (x87 &&& (32 : Int32)) = 0) → ok_S_placeSprite_j3 x1 x87 x130 x131 M132 x133 (ok_S_placeSprite_l1 x1 x87 x130 n) x131))))) ∧ Q ((if (8 : Int32) ≤ x131 then M132 else let x133 : Int32 := ((x1 - (8 : Int32)) + x131); (if (x87 &&& (32 : Int32)) = 0 then (f_S_placeSprite_j3_m x1 x87 x130 x131 M132 x133 (f_S_placeSprite_l1_m x1 x87 x130 n) ((7 : Int32) - x131)) else (f_S_placeSprite_j3_m x1 x87 x130 x131 M132 x133 (f_S_placeSprite_l1_m x1 x87 x130 n) x131))))
    (try dsimp only)
    by_cases hc2 : (8 : Int32) ≤ x131
    · skip
      refine ps_brp hc2 ?_
      refine And.intro trivial ?_
      (try simp only [if_pos hc2])
      exact hQ _ s_M132
    · skip
      refine ps_brn hc2 ?_
      (try simp only [if_neg hc2])
      refine ps_let ?_
      generalize e_x133 : ((x1 - (8 : Int32)) + x131) = x133
      by_cases hc3 : (x87 &&& (32 : Int32)) = 0
      · skip
        refine ps_brp hc3 ?_
        (try simp only [if_pos hc3])
        exact so_S_placeSprite_j3 (d := d) (ρ := ρ) x1 x87 x130 x131 M132 x133 n _ _ ((7 : Int32) - x131) s_M132 (by first | assumption | ((try simp only [ti_le, ti_lt, Int32.reduceToInt] at *) <;> omega)) (by first | assumption | ((try simp only [ti_le, ti_lt, Int32.reduceToInt] at *) <;> omega)) (by first | assumption | ((try simp only [ti_le, ti_lt, Int32.reduceToInt] at *) <;> omega)) hK1 hQ
      · skip
        refine ps_brn hc3 ?_
        (try simp only [if_neg hc3])
        exact so_S_placeSprite_j3 (d := d) (ρ := ρ) x1 x87 x130 x131 M132 x133 n _ _ x131 s_M132 (by first | assumption | ((try simp only [ti_le, ti_lt, Int32.reduceToInt] at *) <;> omega)) (by first | assumption | ((try simp only [ti_le, ti_lt, Int32.reduceToInt] at *) <;> omega)) (by first | assumption | ((try simp only [ti_le, ti_lt, Int32.reduceToInt] at *) <;> omega)) hK1 hQ
set_option maxRecDepth 100000 in
set_option maxHeartbeats 4000000 in
theorem so_S_placeSprite_j2 {d : Int32} {ρ : Nat → Int32} {Q : Mem → Prop} (M0 : Mem) (x1 : Int32) (x86 : Int32) (x87 : Int32) (x129 : Int32) (s_M0 : SC d ρ M0) (hQ : ∀ (M' : Mem), SC d ρ M' → Q M') : ok_S_placeSprite_j2 M0 x1 x86 x87 x129 ∧ Q (f_S_placeSprite_j2_m M0 x1 x86 x87 x129) := by
  unfold ok_S_placeSprite_j2 f_S_placeSprite_j2_m
  (try dsimp only)
  refine ps_let ?_
  generalize e_x130 : (((16 : Int32) * x86) + ((2 : Int32) * x129)) = x130
  exact so_S_placeSprite_l1 (d := d) (ρ := ρ) x1 x87 x130 hQ 9 (0 : Int32) M0 s_M0 (by first | assumption | ((try simp only [ti_le, ti_lt, Int32.reduceToInt] at *) <;> omega)) (by first | assumption | ((try simp only [ti_le, ti_lt, Int32.reduceToInt] at *) <;> omega)) (by first | assumption | ((try simp only [ti_le, ti_lt, Int32.reduceToInt] at *) <;> omega))
set_option maxRecDepth 100000 in
set_option maxHeartbeats 4000000 in
theorem so_S_placeSprite_j1 {d : Int32} {ρ : Nat → Int32} {Q : Mem → Prop} (M0 : Mem) (a1 : Int32) (a2 : Int32) (a3 : Int32) (x1 : Int32) (x86 : Int32) (s_M0 : SC d ρ M0) (hp0 : 0 ≤ (a1).toInt) (hp1 : (a1).toInt ≤ 156) (hQ : ∀ (M' : Mem), SC d ρ M' → Q M') : ok_S_placeSprite_j1 M0 a1 a2 a3 x1 x86 ∧ Q (f_S_placeSprite_j1_m M0 a1 a2 a3 x1 x86) := by
  unfold ok_S_placeSprite_j1 f_S_placeSprite_j1_m
  (try dsimp only)
  refine ps_and (by rw [vp_iff, ti_add (by (try simp only [ti_le, ti_lt, Int32.reduceToInt] at *) <;> omega) (by (try simp only [ti_le, ti_lt, Int32.reduceToInt] at *) <;> omega)]; constructor <;> ((try simp only [ti_le, ti_lt, Int32.reduceToInt] at *) <;> omega)) ?_
  refine ps_let ?_
  generalize e_x87 : (M0 10 ((a1 + (3 : Int32))).toNatClampNeg) = x87
  by_cases hc1 : (x87 &&& (64 : Int32)) = 0
  · skip
    refine ps_brp hc1 ?_
    (try simp only [if_pos hc1])
    exact so_S_placeSprite_j2 (d := d) (ρ := ρ) M0 x1 x86 x87 a2 s_M0 hQ
  · skip
    refine ps_brn hc1 ?_
    (try simp only [if_neg hc1])
    exact so_S_placeSprite_j2 (d := d) (ρ := ρ) M0 x1 x86 x87 ((a3 - (1 : Int32)) - a2) s_M0 hQ
set_option maxRecDepth 100000 in
set_option maxHeartbeats 4000000 in
theorem sq_S_placeSprite {d : Int32} {ρ : Nat → Int32} {Q : Mem → Prop} (M0 : Mem) (a1 : Int32) (a2 : Int32) (a3 : Int32) (s_M0 : SC d ρ M0) (hp0 : 0 ≤ (a1).toInt) (hp1 : (a1).toInt ≤ 156) (hQ : ∀ (M' : Mem), SC d ρ M' → Q M') : ok_S_placeSprite M0 a1 a2 a3 ∧ Q (f_S_placeSprite_m M0 a1 a2 a3) := by
  unfold ok_S_placeSprite f_S_placeSprite_m
  (try dsimp only)
  refine ps_and (by rw [vp_iff, ti_add (by (try simp only [ti_le, ti_lt, Int32.reduceToInt] at *) <;> omega) (by (try simp only [ti_le, ti_lt, Int32.reduceToInt] at *) <;> omega)]; constructor <;> ((try simp only [ti_le, ti_lt, Int32.reduceToInt] at *) <;> omega)) ?_
  refine ps_let ?_
  generalize e_x1 : (M0 10 ((a1 + (1 : Int32))).toNatClampNeg) = x1
  by_cases hc1 : a3 = (16 : Int32)
  · skip
    refine ps_nrp hc1 ?_
    (try simp only [if_pos hc1])
    refine ps_and (by rw [vp_iff, ti_add (by (try simp only [ti_le, ti_lt, Int32.reduceToInt] at *) <;> omega) (by (try simp only [ti_le, ti_lt, Int32.reduceToInt] at *) <;> omega)]; constructor <;> ((try simp only [ti_le, ti_lt, Int32.reduceToInt] at *) <;> omega)) ?_
    exact so_S_placeSprite_j1 (d := d) (ρ := ρ) M0 a1 a2 a3 x1 ((M0 10 ((a1 + (2 : Int32))).toNatClampNeg) &&& (254 : Int32)) s_M0 (by first | assumption | ((try simp only [ti_le, ti_lt, Int32.reduceToInt] at *) <;> omega)) (by first | assumption | ((try simp only [ti_le, ti_lt, Int32.reduceToInt] at *) <;> omega)) hQ
  · skip
    refine ps_nrn hc1 ?_
    (try simp only [if_neg hc1])
    refine ps_and (by rw [vp_iff, ti_add (by (try simp only [ti_le, ti_lt, Int32.reduceToInt] at *) <;> omega) (by (try simp only [ti_le, ti_lt, Int32.reduceToInt] at *) <;> omega)]; constructor <;> ((try simp only [ti_le, ti_lt, Int32.reduceToInt] at *) <;> omega)) ?_
    exact so_S_placeSprite_j1 (d := d) (ρ := ρ) M0 a1 a2 a3 x1 (M0 10 ((a1 + (2 : Int32))).toNatClampNeg) s_M0 (by first | assumption | ((try simp only [ti_le, ti_lt, Int32.reduceToInt] at *) <;> omega)) (by first | assumption | ((try simp only [ti_le, ti_lt, Int32.reduceToInt] at *) <;> omega)) hQ
theorem so_S_placeSprite {d : Int32} {ρ : Nat → Int32} (M0 : Mem) (a1 : Int32) (a2 : Int32) (a3 : Int32) (s_M0 : SC d ρ M0) (hp0 : 0 ≤ (a1).toInt) (hp1 : (a1).toInt ≤ 156) : ok_S_placeSprite M0 a1 a2 a3 ∧ SC d ρ (f_S_placeSprite_m M0 a1 a2 a3) := sq_S_placeSprite (d := d) (ρ := ρ) (Q := fun M' => SC d ρ M') M0 a1 a2 a3 s_M0 hp0 hp1 (fun _ h0 => h0)
set_option maxRecDepth 100000 in
set_option maxHeartbeats 4000000 in
theorem so_S_chooseSprites_j2 {d : Int32} {ρ : Nat → Int32} {Q : Mem → Prop} (M31 : Mem) (s_M31 : SC d ρ M31) (hQ : ∀ (M' : Mem), SC d ρ M' → Q M') : Q (f_S_chooseSprites_j2_m M31) := by
  unfold f_S_chooseSprites_j2_m
  (try dsimp only)
  exact hQ _ s_M31
set_option maxRecDepth 100000 in
set_option maxHeartbeats 4000000 in
theorem so_S_chooseSprites_j3 {d : Int32} {ρ : Nat → Int32} {Q : Mem → Prop} (x30 : Int32) (n : Nat) (K1_m : Int32 → Int32 → Mem → Mem) (K1_ok : Int32 → Int32 → Mem → Prop) (x49 : Int32) (M50 : Mem) (s_M50 : SC d ρ M50) (hp0 : 0 ≤ (x30).toInt) (hp1 : (x30).toInt < 40) (hp2 : 40 < (x30).toInt + (n + 1)) (hK1 : ∀ (z0 : Int32) (z1 : Int32) (z2 : Mem), SC d ρ z2 → 0 ≤ (z1).toInt → (z1).toInt ≤ 40 → 40 < (z1).toInt + n → K1_ok z0 z1 z2 ∧ Q (K1_m z0 z1 z2)) (hQ : ∀ (M' : Mem), SC d ρ M' → Q M') : ok_S_chooseSprites_j3 x30 K1_ok x49 M50 ∧ Q (f_S_chooseSprites_j3_m x30 K1_m x49 M50) := by
  unfold ok_S_chooseSprites_j3 f_S_chooseSprites_j3_m
  (try dsimp only)
  refine ps_let ?_
  generalize e_x51 : x30 + (1 : Int32) = x51
  have a_x51 : x51.toInt = x30.toInt + 1 := by rw [← e_x51, ti_add (by (try simp only [ti_le, ti_lt, Int32.reduceToInt] at *) <;> omega) (by (try simp only [ti_le, ti_lt, Int32.reduceToInt] at *) <;> omega)]; rfl
  exact hK1 x49 x51 M50 s_M50 (by first | assumption | ((try simp only [ti_le, ti_lt, Int32.reduceToInt] at *) <;> omega)) (by first | assumption | ((try simp only [ti_le, ti_lt, Int32.reduceToInt] at *) <;> omega)) (by first | assumption | ((try simp only [ti_le, ti_lt, Int32.reduceToInt] at *) <;> omega))
set_option maxRecDepth 100000 in
set_option maxHeartbeats 4000000 in
theorem so_S_chooseSprites_l1 {d : Int32} {ρ : Nat → Int32} {Q : Mem → Prop} (a1 : Int32) (x28 : Int32) (hQ : ∀ (M' : Mem), SC d ρ M' → Q M') : ∀ (n : Nat) (x29 : Int32) (x30 : Int32) (M31 : Mem), SC d ρ M31 → 0 ≤ (x30).toInt → (x30).toInt ≤ 40 → 40 < (x30).toInt + n → ok_S_chooseSprites_l1 a1 x28 n x29 x30 M31 ∧ Q (f_S_chooseSprites_l1_m a1 x28 n x29 x30 M31) := by
  intro n
  induction n with
  | zero =>
    intro x29 x30 M31 s_M31 hL0 hL1 hL2
    exact False.elim (by (try simp only [ti_le, ti_lt, Int32.reduceToInt] at *) <;> omega)
  | succ n ih =>
    intro x29 x30 M31 s_M31 hL0 hL1 hL2
    have hK1 := ih
    show (((((40 : Int32) ≤ x30) → True) ∧ ((¬ (40 : Int32) ≤ x30) → ((((10 : Int32) ≤ x29) → True) ∧ ((¬ (10 : Int32) ≤ x29) → vp_in ((4 : Int32) * x30) 160 ∧ (∀ x43 : Int32, x43 = (a1 - ((M31 10 (((4 : Int32) * x30)).toNatClampNeg) - (16 : Int32))) → (((x43 < 0) → ok_S_chooseSprites_j3 x30 (ok_S_chooseSprites_l1 a1 x28 n) x29 M31) ∧ ((¬ x43 < 0) → (((x28 ≤ x43) → ok_S_chooseSprites_j3 x30 (ok_S_chooseSprites_l1 a1 x28 n) x29 M31) ∧ ((¬ x28 ≤ x43) → ok_S_placeSprite M31 ((4 : Int32) * x30) x43 x28 ∧ (∀ M52 : Mem, M52 = f_S_placeSprite_m M31 ((4 : Int32) * x30) x43 x28 → ∀ x53 : Int32, x53 = x29 + (1 : Int32) → ok_S_chooseSprites_j3 x30 (ok_S_chooseSprites_l1 a1 x28 n) x53 M52))))))))))) ∧ Q ((if (40 : Int32) ≤ x30 then (f_S_chooseSprites_j2_m M31) else (if (10 : Int32) ≤ x29 then (f_S_chooseSprites_j2_m M31) else let x43 : Int32 := (a1 - ((M31 10 (((4 : Int32) * x30)).toNatClampNeg) - (16 : Int32))); (if x43 < 0 then (f_S_chooseSprites_j3_m x30 (f_S_chooseSprites_l1_m a1 x28 n) x29 M31) else (if x28 ≤ x43 then (f_S_chooseSprites_j3_m x30 (f_S_chooseSprites_l1_m a1 x28 n) x29 M31) else let M52 : Mem := f_S_placeSprite_m M31 ((4 : Int32) * x30) x43 x28; let x53 : Int32 := x29 + (1 : Int32); (f_S_chooseSprites_j3_m x30 (f_S_chooseSprites_l1_m a1 x28 n) x53 M52))))))
    (try dsimp only)
    by_cases hc2 : (40 : Int32) ≤ x30
    · skip
      refine ps_brp hc2 ?_
      refine And.intro trivial ?_
      (try simp only [if_pos hc2])
      exact so_S_chooseSprites_j2 (d := d) (ρ := ρ) M31 s_M31 hQ
    · skip
      refine ps_brn hc2 ?_
      (try simp only [if_neg hc2])
      by_cases hc3 : (10 : Int32) ≤ x29
      · skip
        refine ps_brp hc3 ?_
        refine And.intro trivial ?_
        (try simp only [if_pos hc3])
        exact so_S_chooseSprites_j2 (d := d) (ρ := ρ) M31 s_M31 hQ
      · skip
        refine ps_brn hc3 ?_
        (try simp only [if_neg hc3])
        refine ps_and (by rw [vp_iff, ti_mul (by (try simp only [ti_le, ti_lt, Int32.reduceToInt] at *) <;> omega) (by (try simp only [ti_le, ti_lt, Int32.reduceToInt] at *) <;> omega)]; constructor <;> ((try simp only [ti_le, ti_lt, Int32.reduceToInt] at *) <;> omega)) ?_
        refine ps_let ?_
        generalize e_x43 : (a1 - ((M31 10 (((4 : Int32) * x30)).toNatClampNeg) - (16 : Int32))) = x43
        by_cases hc4 : x43 < 0
        · skip
          refine ps_brp hc4 ?_
          (try simp only [if_pos hc4])
          exact so_S_chooseSprites_j3 (d := d) (ρ := ρ) x30 n _ _ x29 M31 s_M31 (by first | assumption | ((try simp only [ti_le, ti_lt, Int32.reduceToInt] at *) <;> omega)) (by first | assumption | ((try simp only [ti_le, ti_lt, Int32.reduceToInt] at *) <;> omega)) (by first | assumption | ((try simp only [ti_le, ti_lt, Int32.reduceToInt] at *) <;> omega)) hK1 hQ
        · skip
          refine ps_brn hc4 ?_
          (try simp only [if_neg hc4])
          by_cases hc5 : x28 ≤ x43
          · skip
            refine ps_brp hc5 ?_
            (try simp only [if_pos hc5])
            exact so_S_chooseSprites_j3 (d := d) (ρ := ρ) x30 n _ _ x29 M31 s_M31 (by first | assumption | ((try simp only [ti_le, ti_lt, Int32.reduceToInt] at *) <;> omega)) (by first | assumption | ((try simp only [ti_le, ti_lt, Int32.reduceToInt] at *) <;> omega)) (by first | assumption | ((try simp only [ti_le, ti_lt, Int32.reduceToInt] at *) <;> omega)) hK1 hQ
          · skip
            refine ps_brn hc5 ?_
            (try simp only [if_neg hc5])
            have t_ := so_S_placeSprite (d := d) (ρ := ρ) M31 ((4 : Int32) * x30) x43 x28 s_M31 (by rw [ti_mul (by (try simp only [ti_le, ti_lt, Int32.reduceToInt] at *) <;> omega) (by (try simp only [ti_le, ti_lt, Int32.reduceToInt] at *) <;> omega)]; (try simp only [ti_le, ti_lt, Int32.reduceToInt] at *) <;> omega) (by rw [ti_mul (by (try simp only [ti_le, ti_lt, Int32.reduceToInt] at *) <;> omega) (by (try simp only [ti_le, ti_lt, Int32.reduceToInt] at *) <;> omega)]; (try simp only [ti_le, ti_lt, Int32.reduceToInt] at *) <;> omega)
            refine ps_and t_.1 ?_
            replace t_ := t_.2
            refine ps_let ?_
            generalize e_M52 : f_S_placeSprite_m M31 ((4 : Int32) * x30) x43 x28 = M52 at t_ ⊢
            have s_M52 := t_
            refine ps_let ?_
            generalize e_x53 : x29 + (1 : Int32) = x53
            exact so_S_chooseSprites_j3 (d := d) (ρ := ρ) x30 n _ _ x53 M52 s_M52 (by first | assumption | ((try simp only [ti_le, ti_lt, Int32.reduceToInt] at *) <;> omega)) (by first | assumption | ((try simp only [ti_le, ti_lt, Int32.reduceToInt] at *) <;> omega)) (by first | assumption | ((try simp only [ti_le, ti_lt, Int32.reduceToInt] at *) <;> omega)) hK1 hQ
set_option maxRecDepth 100000 in
set_option maxHeartbeats 4000000 in
theorem so_S_chooseSprites_j1 {d : Int32} {ρ : Nat → Int32} {Q : Mem → Prop} (M0 : Mem) (a1 : Int32) (x28 : Int32) (s_M0 : SC d ρ M0) (hQ : ∀ (M' : Mem), SC d ρ M' → Q M') : ok_S_chooseSprites_j1 M0 a1 x28 ∧ Q (f_S_chooseSprites_j1_m M0 a1 x28) := by
  unfold ok_S_chooseSprites_j1 f_S_chooseSprites_j1_m
  (try dsimp only)
  exact so_S_chooseSprites_l1 (d := d) (ρ := ρ) a1 x28 hQ 41 (0 : Int32) (0 : Int32) M0 s_M0 (by first | assumption | ((try simp only [ti_le, ti_lt, Int32.reduceToInt] at *) <;> omega)) (by first | assumption | ((try simp only [ti_le, ti_lt, Int32.reduceToInt] at *) <;> omega)) (by first | assumption | ((try simp only [ti_le, ti_lt, Int32.reduceToInt] at *) <;> omega))
set_option maxRecDepth 100000 in
set_option maxHeartbeats 4000000 in
theorem sq_S_chooseSprites {d : Int32} {ρ : Nat → Int32} {Q : Mem → Prop} (M0 : Mem) (a1 : Int32) (s_M0 : SC d ρ M0) (hQ : ∀ (M' : Mem), SC d ρ M' → Q M') : ok_S_chooseSprites M0 a1 ∧ Q (f_S_chooseSprites_m M0 a1) := by
  unfold ok_S_chooseSprites f_S_chooseSprites_m
  (try dsimp only)
  have t_ := so_S_has (d := d) (ρ := ρ) M0 (4 : Int32) s_M0 
  refine ps_and t_.1 ?_
  replace t_ := t_.2
  refine ps_let ?_
  generalize e_x1 : f_S_has_v M0 (4 : Int32) = x1 at t_ ⊢
  by_cases hc1 : x1 = 0
  · skip
    refine ps_brp hc1 ?_
    (try simp only [if_pos hc1])
    exact so_S_chooseSprites_j1 (d := d) (ρ := ρ) M0 a1 (8 : Int32) s_M0 hQ
  · skip
    refine ps_brn hc1 ?_
    (try simp only [if_neg hc1])
    exact so_S_chooseSprites_j1 (d := d) (ρ := ρ) M0 a1 (16 : Int32) s_M0 hQ
theorem so_S_chooseSprites {d : Int32} {ρ : Nat → Int32} (M0 : Mem) (a1 : Int32) (s_M0 : SC d ρ M0) : ok_S_chooseSprites M0 a1 ∧ SC d ρ (f_S_chooseSprites_m M0 a1) := sq_S_chooseSprites (d := d) (ρ := ρ) (Q := fun M' => SC d ρ M') M0 a1 s_M0  (fun _ h0 => h0)
set_option maxRecDepth 100000 in
set_option maxHeartbeats 4000000 in
theorem so_S_mapNumber_j2 {d : Int32} {ρ : Nat → Int32} {Q : Int32 → Prop} (M0 : Mem) (a2 : Int32) (a3 : Int32) (x13 : Int32) (s_M0 : SC d ρ M0) (hQ : ∀ (x : Int32), Q x) : ok_S_mapNumber_j2 M0 a2 a3 x13 ∧ Q (f_S_mapNumber_j2_v M0 a2 a3 x13) := by
  unfold ok_S_mapNumber_j2 f_S_mapNumber_j2_v
  (try dsimp only)
  have t_ := so_S_numberAt (d := d) (ρ := ρ) M0 (x13 + ((2 : Int32) * (a3 &&& (7 : Int32)))) ((7 : Int32) - (a2 &&& (7 : Int32))) s_M0 
  refine And.intro t_.1 ?_
  replace t_ := t_.2
  generalize e_x14 : f_S_numberAt_v M0 (x13 + ((2 : Int32) * (a3 &&& (7 : Int32)))) ((7 : Int32) - (a2 &&& (7 : Int32))) = x14 at t_ ⊢
  exact hQ _
set_option maxRecDepth 100000 in
set_option maxHeartbeats 4000000 in
theorem so_S_mapNumber_j1 {d : Int32} {ρ : Nat → Int32} {Q : Int32 → Prop} (M0 : Mem) (a2 : Int32) (a3 : Int32) (x8 : Int32) (s_M0 : SC d ρ M0) (hp0 : 0 ≤ (x8).toInt) (hp1 : (x8).toInt ≤ 7168) (hQ : ∀ (x : Int32), Q x) : ok_S_mapNumber_j1 M0 a2 a3 x8 ∧ Q (f_S_mapNumber_j1_v M0 a2 a3 x8) := by
  unfold ok_S_mapNumber_j1 f_S_mapNumber_j1_v
  (try dsimp only)
  refine ps_and (by exact map_in (by assumption) (by assumption)) ?_
  refine ps_let ?_
  generalize e_x9 : (M0 9 (((x8 + ((32 : Int32) * ((a3 >>> ((3 : Int32) &&& (31 : Int32))) &&& (31 : Int32)))) + ((a2 >>> ((3 : Int32) &&& (31 : Int32))) &&& (31 : Int32)))).toNatClampNeg) = x9
  have t_ := so_S_has (d := d) (ρ := ρ) M0 (16 : Int32) s_M0 
  refine ps_and t_.1 ?_
  replace t_ := t_.2
  refine ps_let ?_
  generalize e_x10 : f_S_has_v M0 (16 : Int32) = x10 at t_ ⊢
  by_cases hc1 : x10 = 0
  · skip
    refine ps_brp hc1 ?_
    (try simp only [if_pos hc1])
    exact so_S_mapNumber_j2 (d := d) (ρ := ρ) M0 a2 a3 ((4096 : Int32) + ((16 : Int32) * (x9.toInt8.toInt32))) s_M0 hQ
  · skip
    refine ps_brn hc1 ?_
    (try simp only [if_neg hc1])
    exact so_S_mapNumber_j2 (d := d) (ρ := ρ) M0 a2 a3 ((16 : Int32) * x9) s_M0 hQ
set_option maxRecDepth 100000 in
set_option maxHeartbeats 4000000 in
theorem sq_S_mapNumber {d : Int32} {ρ : Nat → Int32} {Q : Int32 → Prop} (M0 : Mem) (a1 : Int32) (a2 : Int32) (a3 : Int32) (s_M0 : SC d ρ M0) (hQ : ∀ (x : Int32), Q x) : ok_S_mapNumber M0 a1 a2 a3 ∧ Q (f_S_mapNumber_v M0 a1 a2 a3) := by
  unfold ok_S_mapNumber f_S_mapNumber_v
  (try dsimp only)
  by_cases hc1 : a1 = 0
  · skip
    refine ps_brp hc1 ?_
    (try simp only [if_pos hc1])
    exact so_S_mapNumber_j1 (d := d) (ρ := ρ) M0 a2 a3 (6144 : Int32) s_M0 (by first | assumption | ((try simp only [ti_le, ti_lt, Int32.reduceToInt] at *) <;> omega)) (by first | assumption | ((try simp only [ti_le, ti_lt, Int32.reduceToInt] at *) <;> omega)) hQ
  · skip
    refine ps_brn hc1 ?_
    (try simp only [if_neg hc1])
    exact so_S_mapNumber_j1 (d := d) (ρ := ρ) M0 a2 a3 (7168 : Int32) s_M0 (by first | assumption | ((try simp only [ti_le, ti_lt, Int32.reduceToInt] at *) <;> omega)) (by first | assumption | ((try simp only [ti_le, ti_lt, Int32.reduceToInt] at *) <;> omega)) hQ
theorem so_S_mapNumber {d : Int32} {ρ : Nat → Int32} (M0 : Mem) (a1 : Int32) (a2 : Int32) (a3 : Int32) (s_M0 : SC d ρ M0) : ok_S_mapNumber M0 a1 a2 a3 ∧ True := sq_S_mapNumber (d := d) (ρ := ρ) (Q := fun _ => True) M0 a1 a2 a3 s_M0  (fun _ => trivial)
set_option maxRecDepth 100000 in
set_option maxHeartbeats 4000000 in
theorem so_S_backgroundNumber_j1 {d : Int32} {ρ : Nat → Int32} {Q : Int32 → Prop} (M0 : Mem) (a1 : Int32) (a2 : Int32) (s_M0 : SC d ρ M0) (hQ : ∀ (x : Int32), Q x) : ok_S_backgroundNumber_j1 M0 a1 a2 ∧ Q (f_S_backgroundNumber_j1_v M0 a1 a2) := by
  unfold ok_S_backgroundNumber_j1 f_S_backgroundNumber_j1_v
  (try dsimp only)
  have t_ := so_S_has (d := d) (ρ := ρ) M0 (8 : Int32) s_M0 
  refine ps_and t_.1 ?_
  replace t_ := t_.2
  refine ps_let ?_
  generalize e_x9 : f_S_has_v M0 (8 : Int32) = x9 at t_ ⊢
  have t_ := so_S_mapNumber (d := d) (ρ := ρ) M0 x9 ((a1 + (M0 8 67)) &&& (255 : Int32)) ((a2 + (M0 8 66)) &&& (255 : Int32)) s_M0 
  refine And.intro t_.1 ?_
  replace t_ := t_.2
  generalize e_x10 : f_S_mapNumber_v M0 x9 ((a1 + (M0 8 67)) &&& (255 : Int32)) ((a2 + (M0 8 66)) &&& (255 : Int32)) = x10 at t_ ⊢
  exact hQ _
set_option maxRecDepth 100000 in
set_option maxHeartbeats 4000000 in
theorem sq_S_backgroundNumber {d : Int32} {ρ : Nat → Int32} {Q : Int32 → Prop} (M0 : Mem) (a1 : Int32) (a2 : Int32) (s_M0 : SC d ρ M0) (hQ : ∀ (x : Int32), Q x) : ok_S_backgroundNumber M0 a1 a2 ∧ Q (f_S_backgroundNumber_v M0 a1 a2) := by
  unfold ok_S_backgroundNumber f_S_backgroundNumber_v
  (try dsimp only)
  have t_ := so_S_has (d := d) (ρ := ρ) M0 (1 : Int32) s_M0 
  refine ps_and t_.1 ?_
  replace t_ := t_.2
  refine ps_let ?_
  generalize e_x1 : f_S_has_v M0 (1 : Int32) = x1 at t_ ⊢
  by_cases hc1 : x1 = 0
  · skip
    refine ps_nrp hc1 ?_
    refine And.intro trivial ?_
    (try simp only [if_pos hc1])
    exact hQ _
  · skip
    refine ps_nrn hc1 ?_
    (try simp only [if_neg hc1])
    refine ps_let ?_
    generalize e_x2 : (M0 8 75) = x2
    refine ps_let ?_
    generalize e_x3 : (M0 8 74) = x3
    have t_ := so_S_has (d := d) (ρ := ρ) M0 (32 : Int32) s_M0 
    refine ps_and t_.1 ?_
    replace t_ := t_.2
    refine ps_let ?_
    generalize e_x4 : f_S_has_v M0 (32 : Int32) = x4 at t_ ⊢
    by_cases hc2 : x4 = 0
    · skip
      refine ps_brp hc2 ?_
      (try simp only [if_pos hc2])
      exact so_S_backgroundNumber_j1 (d := d) (ρ := ρ) M0 a1 a2 s_M0 hQ
    · skip
      refine ps_brn hc2 ?_
      (try simp only [if_neg hc2])
      by_cases hc3 : a2 < x3
      · skip
        refine ps_brp hc3 ?_
        (try simp only [if_pos hc3])
        exact so_S_backgroundNumber_j1 (d := d) (ρ := ρ) M0 a1 a2 s_M0 hQ
      · skip
        refine ps_brn hc3 ?_
        (try simp only [if_neg hc3])
        by_cases hc4 : (a1 + (7 : Int32)) < x2
        · skip
          refine ps_brp hc4 ?_
          (try simp only [if_pos hc4])
          exact so_S_backgroundNumber_j1 (d := d) (ρ := ρ) M0 a1 a2 s_M0 hQ
        · skip
          refine ps_brn hc4 ?_
          (try simp only [if_neg hc4])
          have t_ := so_S_has (d := d) (ρ := ρ) M0 (64 : Int32) s_M0 
          refine ps_and t_.1 ?_
          replace t_ := t_.2
          refine ps_let ?_
          generalize e_x11 : f_S_has_v M0 (64 : Int32) = x11 at t_ ⊢
          have t_ := so_S_mapNumber (d := d) (ρ := ρ) M0 x11 ((a1 + (7 : Int32)) - x2) (a2 - x3) s_M0 
          refine And.intro t_.1 ?_
          replace t_ := t_.2
          generalize e_x12 : f_S_mapNumber_v M0 x11 ((a1 + (7 : Int32)) - x2) (a2 - x3) = x12 at t_ ⊢
          exact hQ _
theorem so_S_backgroundNumber {d : Int32} {ρ : Nat → Int32} (M0 : Mem) (a1 : Int32) (a2 : Int32) (s_M0 : SC d ρ M0) : ok_S_backgroundNumber M0 a1 a2 ∧ True := sq_S_backgroundNumber (d := d) (ρ := ρ) (Q := fun _ => True) M0 a1 a2 s_M0  (fun _ => trivial)
set_option maxRecDepth 100000 in
set_option maxHeartbeats 4000000 in
theorem so_S_colour_j1 {d : Int32} {ρ : Nat → Int32} {Q : Int32 → Prop} (M0 : Mem) (a2 : Int32) (s_M0 : SC d ρ M0) (hQ : ∀ (x : Int32), Q x) : Q (f_S_colour_j1_v M0 a2) := by
  unfold f_S_colour_j1_v
  (try dsimp only)
  exact hQ _
set_option maxRecDepth 100000 in
set_option maxHeartbeats 4000000 in
theorem so_S_colour_j2 {d : Int32} {ρ : Nat → Int32} {Q : Int32 → Prop} (M0 : Mem) (x1 : Int32) (x2 : Int32) (s_M0 : SC d ρ M0) (hQ : ∀ (x : Int32), Q x) : ok_S_colour_j2 M0 x1 x2 ∧ Q (f_S_colour_j2_v M0 x1 x2) := by
  unfold ok_S_colour_j2 f_S_colour_j2_v
  (try dsimp only)
  refine And.intro (by exact obp_in) ?_
  exact hQ _
set_option maxRecDepth 100000 in
set_option maxHeartbeats 4000000 in
theorem sq_S_colour {d : Int32} {ρ : Nat → Int32} {Q : Int32 → Prop} (M0 : Mem) (a1 : Int32) (a2 : Int32) (s_M0 : SC d ρ M0) (hp0 : vp_in a1 160) (hQ : ∀ (x : Int32), Q x) : ok_S_colour M0 a1 a2 ∧ Q (f_S_colour_v M0 a1 a2) := by
  unfold ok_S_colour f_S_colour_v
  (try dsimp only)
  refine ps_and (by first | assumption | (rw [vp_iff]; constructor <;> ((try simp only [ti_le, ti_lt, Int32.reduceToInt] at *) <;> omega))) ?_
  refine ps_let ?_
  generalize e_x1 : (M0 14 a1.toNatClampNeg) = x1
  refine ps_and (by first | assumption | (rw [vp_iff]; constructor <;> ((try simp only [ti_le, ti_lt, Int32.reduceToInt] at *) <;> omega))) ?_
  refine ps_let ?_
  generalize e_x2 : (M0 16 a1.toNatClampNeg) = x2
  by_cases hc1 : x1 = 0
  · skip
    refine ps_brp hc1 ?_
    refine And.intro trivial ?_
    (try simp only [if_pos hc1])
    exact so_S_colour_j1 (d := d) (ρ := ρ) M0 a2 s_M0 hQ
  · skip
    refine ps_brn hc1 ?_
    (try simp only [if_neg hc1])
    by_cases hc2 : (x2 &&& (128 : Int32)) = 0
    · skip
      refine ps_brp hc2 ?_
      (try simp only [if_pos hc2])
      exact so_S_colour_j2 (d := d) (ρ := ρ) M0 x1 x2 s_M0 hQ
    · skip
      refine ps_brn hc2 ?_
      (try simp only [if_neg hc2])
      by_cases hc3 : a2 = 0
      · skip
        refine ps_brp hc3 ?_
        (try simp only [if_pos hc3])
        exact so_S_colour_j2 (d := d) (ρ := ρ) M0 x1 x2 s_M0 hQ
      · skip
        refine ps_brn hc3 ?_
        refine And.intro trivial ?_
        (try simp only [if_neg hc3])
        exact so_S_colour_j1 (d := d) (ρ := ρ) M0 a2 s_M0 hQ
theorem so_S_colour {d : Int32} {ρ : Nat → Int32} (M0 : Mem) (a1 : Int32) (a2 : Int32) (s_M0 : SC d ρ M0) (hp0 : vp_in a1 160) : ok_S_colour M0 a1 a2 ∧ True := sq_S_colour (d := d) (ρ := ρ) (Q := fun _ => True) M0 a1 a2 s_M0 hp0 (fun _ => trivial)
set_option maxRecDepth 100000 in
set_option maxHeartbeats 4000000 in
theorem so_A_fill14_l1 {d : Int32} {ρ : Nat → Int32} {Q : Mem → Prop} (a2 : Int32) (hQ : ∀ (M' : Mem), SC d ρ M' → Q M') : ∀ (n : Nat) (x1 : Int32) (M2 : Mem), SC d ρ M2 → 0 ≤ (x1).toInt → (x1).toInt ≤ 160 → 160 < (x1).toInt + n → ok_A_fill14_l1 a2 n x1 M2 ∧ Q (f_A_fill14_l1_m a2 n x1 M2) := by
  intro n
  induction n with
  | zero =>
    intro x1 M2 s_M2 hL0 hL1 hL2
    exact False.elim (by (try simp only [ti_le, ti_lt, Int32.reduceToInt] at *) <;> omega)
  | succ n ih =>
    intro x1 M2 s_M2 hL0 hL1 hL2
    have hK1 := ih
    show (((((160 : Int32) ≤ x1) → True) ∧ ((¬ (160 : Int32) ≤ x1) → vp_in x1 160 ∧ (∀ M3 : Mem, M3 = mst M2 14 x1.toNatClampNeg a2 → ∀ x4 : Int32, x4 = x1 + (1 : Int32) → (ok_A_fill14_l1 a2 n) x4 M3)))) ∧ Q ((if (160 : Int32) ≤ x1 then M2 else let M3 : Mem := mst M2 14 x1.toNatClampNeg a2; let x4 : Int32 := x1 + (1 : Int32); ((f_A_fill14_l1_m a2 n) x4 M3)))
    (try dsimp only)
    by_cases hc2 : (160 : Int32) ≤ x1
    · skip
      refine ps_brp hc2 ?_
      refine And.intro trivial ?_
      (try simp only [if_pos hc2])
      exact hQ _ s_M2
    · skip
      refine ps_brn hc2 ?_
      (try simp only [if_neg hc2])
      refine ps_and (by first | assumption | (rw [vp_iff]; constructor <;> ((try simp only [ti_le, ti_lt, Int32.reduceToInt] at *) <;> omega))) ?_
      refine ps_let ?_
      have s_M3 : SC d ρ (mst M2 14 x1.toNatClampNeg a2) := SC.sa s_M2 (by decide)
      generalize e_M3 : mst M2 14 x1.toNatClampNeg a2 = M3 at s_M3 ⊢
      refine ps_let ?_
      generalize e_x4 : x1 + (1 : Int32) = x4
      have a_x4 : x4.toInt = x1.toInt + 1 := by rw [← e_x4, ti_add (by (try simp only [ti_le, ti_lt, Int32.reduceToInt] at *) <;> omega) (by (try simp only [ti_le, ti_lt, Int32.reduceToInt] at *) <;> omega)]; rfl
      exact hK1 x4 M3 s_M3 (by first | assumption | ((try simp only [ti_le, ti_lt, Int32.reduceToInt] at *) <;> omega)) (by first | assumption | ((try simp only [ti_le, ti_lt, Int32.reduceToInt] at *) <;> omega)) (by first | assumption | ((try simp only [ti_le, ti_lt, Int32.reduceToInt] at *) <;> omega))
set_option maxRecDepth 100000 in
set_option maxHeartbeats 4000000 in
theorem sq_A_fill14 {d : Int32} {ρ : Nat → Int32} {Q : Mem → Prop} (M0 : Mem) (a2 : Int32) (s_M0 : SC d ρ M0) (hQ : ∀ (M' : Mem), SC d ρ M' → Q M') : ok_A_fill14 M0 a2 ∧ Q (f_A_fill14_m M0 a2) := by
  unfold ok_A_fill14 f_A_fill14_m
  (try dsimp only)
  exact so_A_fill14_l1 (d := d) (ρ := ρ) a2 hQ 161 (0 : Int32) M0 s_M0 (by first | assumption | ((try simp only [ti_le, ti_lt, Int32.reduceToInt] at *) <;> omega)) (by first | assumption | ((try simp only [ti_le, ti_lt, Int32.reduceToInt] at *) <;> omega)) (by first | assumption | ((try simp only [ti_le, ti_lt, Int32.reduceToInt] at *) <;> omega))
theorem so_A_fill14 {d : Int32} {ρ : Nat → Int32} (M0 : Mem) (a2 : Int32) (s_M0 : SC d ρ M0) : ok_A_fill14 M0 a2 ∧ SC d ρ (f_A_fill14_m M0 a2) := sq_A_fill14 (d := d) (ρ := ρ) (Q := fun M' => SC d ρ M') M0 a2 s_M0  (fun _ h0 => h0)
set_option maxRecDepth 100000 in
set_option maxHeartbeats 4000000 in
theorem so_S_make_l1 {d : Int32} {ρ : Nat → Int32} {Q : Int32 → Mem → Prop} (a1 : Int32) (hQ : ∀ (x : Int32) (M' : Mem), SC d ρ M' → Q x M') : ∀ (n : Nat) (x15 : Int32) (x16 : Int32) (M17 : Mem), SC d ρ M17 → 0 ≤ (x16).toInt → (x16).toInt ≤ 160 → 160 < (x16).toInt + n → ok_S_make_l1 a1 n x15 x16 M17 ∧ Q (f_S_make_l1_v a1 n x15 x16 M17) (f_S_make_l1_m a1 n x15 x16 M17) := by
  intro n
  induction n with
  | zero =>
    intro x15 x16 M17 s_M17 hL0 hL1 hL2
    exact False.elim (by (try simp only [ti_le, ti_lt, Int32.reduceToInt] at *) <;> omega)
  | succ n ih =>
    intro x15 x16 M17 s_M17 hL0 hL1 hL2
    have hK1 := ih
    show (((((160 : Int32) ≤ x16) → True) ∧ ((¬ (160 : Int32) ≤ x16) → ok_S_backgroundNumber M17 x16 a1 ∧ (∀ x18 : Int32, x18 = f_S_backgroundNumber_v M17 x16 a1 → ok_S_colour M17 x16 x18 ∧ (∀ x19 : Int32, x19 = f_S_colour_v M17 x16 x18 → vp_in x16 160 ∧ (∀ M20 : Mem, M20 = mst M17 13 x16.toNatClampNeg x19 → vp_in x16 160 ∧ (∀ x21 : Int32, x21 = (x15 + (M20 13 x16.toNatClampNeg)) → ∀ x22 : Int32, x22 = x16 + (1 : Int32) → (ok_S_make_l1 a1 n) x21 x22 M20))))))) ∧ Q ((if (160 : Int32) ≤ x16 then x15 else let x18 : Int32 := f_S_backgroundNumber_v M17 x16 a1; let x19 : Int32 := f_S_colour_v M17 x16 x18; let M20 : Mem := mst M17 13 x16.toNatClampNeg x19; let x21 : Int32 := (x15 + (M20 13 x16.toNatClampNeg)); let x22 : Int32 := x16 + (1 : Int32); ((f_S_make_l1_v a1 n) x21 x22 M20))) ((if (160 : Int32) ≤ x16 then M17 else let x18 : Int32 := f_S_backgroundNumber_v M17 x16 a1; let x19 : Int32 := f_S_colour_v M17 x16 x18; let M20 : Mem := mst M17 13 x16.toNatClampNeg x19; let x21 : Int32 := (x15 + (M20 13 x16.toNatClampNeg)); let x22 : Int32 := x16 + (1 : Int32); ((f_S_make_l1_m a1 n) x21 x22 M20)))
    (try dsimp only)
    by_cases hc2 : (160 : Int32) ≤ x16
    · skip
      refine ps_brp hc2 ?_
      refine And.intro trivial ?_
      (try simp only [if_pos hc2])
      exact hQ _ _ s_M17
    · skip
      refine ps_brn hc2 ?_
      (try simp only [if_neg hc2])
      have t_ := so_S_backgroundNumber (d := d) (ρ := ρ) M17 x16 a1 s_M17 
      refine ps_and t_.1 ?_
      replace t_ := t_.2
      refine ps_let ?_
      generalize e_x18 : f_S_backgroundNumber_v M17 x16 a1 = x18 at t_ ⊢
      have t_ := so_S_colour (d := d) (ρ := ρ) M17 x16 x18 s_M17 (by first | assumption | (rw [vp_iff]; constructor <;> ((try simp only [ti_le, ti_lt, Int32.reduceToInt] at *) <;> omega)))
      refine ps_and t_.1 ?_
      replace t_ := t_.2
      refine ps_let ?_
      generalize e_x19 : f_S_colour_v M17 x16 x18 = x19 at t_ ⊢
      refine ps_and (by first | assumption | (rw [vp_iff]; constructor <;> ((try simp only [ti_le, ti_lt, Int32.reduceToInt] at *) <;> omega))) ?_
      refine ps_let ?_
      have s_M20 : SC d ρ (mst M17 13 x16.toNatClampNeg x19) := SC.sa s_M17 (by decide)
      generalize e_M20 : mst M17 13 x16.toNatClampNeg x19 = M20 at s_M20 ⊢
      refine ps_and (by first | assumption | (rw [vp_iff]; constructor <;> ((try simp only [ti_le, ti_lt, Int32.reduceToInt] at *) <;> omega))) ?_
      refine ps_let ?_
      generalize e_x21 : (x15 + (M20 13 x16.toNatClampNeg)) = x21
      refine ps_let ?_
      generalize e_x22 : x16 + (1 : Int32) = x22
      have a_x22 : x22.toInt = x16.toInt + 1 := by rw [← e_x22, ti_add (by (try simp only [ti_le, ti_lt, Int32.reduceToInt] at *) <;> omega) (by (try simp only [ti_le, ti_lt, Int32.reduceToInt] at *) <;> omega)]; rfl
      exact hK1 x21 x22 M20 s_M20 (by first | assumption | ((try simp only [ti_le, ti_lt, Int32.reduceToInt] at *) <;> omega)) (by first | assumption | ((try simp only [ti_le, ti_lt, Int32.reduceToInt] at *) <;> omega)) (by first | assumption | ((try simp only [ti_le, ti_lt, Int32.reduceToInt] at *) <;> omega))
set_option maxRecDepth 100000 in
set_option maxHeartbeats 4000000 in
theorem so_S_make_j1 {d : Int32} {ρ : Nat → Int32} {Q : Int32 → Mem → Prop} (a1 : Int32) (M14 : Mem) (s_M14 : SC d ρ M14) (hQ : ∀ (x : Int32) (M' : Mem), SC d ρ M' → Q x M') : ok_S_make_j1 a1 M14 ∧ Q (f_S_make_j1_v a1 M14) (f_S_make_j1_m a1 M14) := by
  unfold ok_S_make_j1 f_S_make_j1_v f_S_make_j1_m
  (try dsimp only)
  exact so_S_make_l1 (d := d) (ρ := ρ) a1 hQ 161 (0 : Int32) (0 : Int32) M14 s_M14 (by first | assumption | ((try simp only [ti_le, ti_lt, Int32.reduceToInt] at *) <;> omega)) (by first | assumption | ((try simp only [ti_le, ti_lt, Int32.reduceToInt] at *) <;> omega)) (by first | assumption | ((try simp only [ti_le, ti_lt, Int32.reduceToInt] at *) <;> omega))
set_option maxRecDepth 100000 in
set_option maxHeartbeats 4000000 in
theorem sq_S_make {d : Int32} {ρ : Nat → Int32} {Q : Int32 → Mem → Prop} (M0 : Mem) (a1 : Int32) (s_M0 : SC d ρ M0) (hQ : ∀ (x : Int32) (M' : Mem), SC d ρ M' → Q x M') : ok_S_make M0 a1 ∧ Q (f_S_make_v M0 a1) (f_S_make_m M0 a1) := by
  unfold ok_S_make f_S_make_v f_S_make_m
  (try dsimp only)
  have t_ := so_S_has (d := d) (ρ := ρ) M0 (128 : Int32) s_M0 
  refine ps_and t_.1 ?_
  replace t_ := t_.2
  refine ps_let ?_
  generalize e_x1 : f_S_has_v M0 (128 : Int32) = x1 at t_ ⊢
  by_cases hc1 : x1 = 0
  · skip
    refine ps_nrp hc1 ?_
    (try simp only [if_pos hc1])
    have t_ := so_A_fill13 (d := d) (ρ := ρ) M0 (0 : Int32) s_M0 
    refine And.intro t_.1 ?_
    replace t_ := t_.2
    generalize e_M24 : f_A_fill13_m M0 (0 : Int32) = M24 at t_ ⊢
    have s_M24 := t_
    exact hQ _ _ s_M24
  · skip
    refine ps_nrn hc1 ?_
    (try simp only [if_neg hc1])
    have t_ := so_A_fill14 (d := d) (ρ := ρ) M0 (0 : Int32) s_M0 
    refine ps_and t_.1 ?_
    replace t_ := t_.2
    refine ps_let ?_
    generalize e_M2 : f_A_fill14_m M0 (0 : Int32) = M2 at t_ ⊢
    have s_M2 := t_
    have t_ := so_S_has (d := d) (ρ := ρ) M2 (2 : Int32) s_M2 
    refine ps_and t_.1 ?_
    replace t_ := t_.2
    refine ps_let ?_
    generalize e_x3 : f_S_has_v M2 (2 : Int32) = x3 at t_ ⊢
    by_cases hc2 : x3 = 0
    · skip
      refine ps_brp hc2 ?_
      (try simp only [if_pos hc2])
      exact so_S_make_j1 (d := d) (ρ := ρ) a1 M2 s_M2 hQ
    · skip
      refine ps_brn hc2 ?_
      (try simp only [if_neg hc2])
      have t_ := so_S_chooseSprites (d := d) (ρ := ρ) M2 a1 s_M2 
      refine ps_and t_.1 ?_
      replace t_ := t_.2
      refine ps_let ?_
      generalize e_M23 : f_S_chooseSprites_m M2 a1 = M23 at t_ ⊢
      have s_M23 := t_
      exact so_S_make_j1 (d := d) (ρ := ρ) a1 M23 s_M23 hQ
theorem so_S_make {d : Int32} {ρ : Nat → Int32} (M0 : Mem) (a1 : Int32) (s_M0 : SC d ρ M0) : ok_S_make M0 a1 ∧ SC d ρ (f_S_make_m M0 a1) := sq_S_make (d := d) (ρ := ρ) (Q := fun _ M' => SC d ρ M') M0 a1 s_M0  (fun _ _ h0 => h0)
