/-! The class is safe: its banks stay in range; which keys are down, and the ROM, stay as they are. -/
def SC (d : Int32) (ρ : Nat → Int32) (M : Mem) : Prop := (0 ≤ (M 1 5).toInt ∧ (M 1 5).toInt < 8) ∧ (0 ≤ (M 1 6).toInt ∧ (M 1 6).toInt < 4) ∧ (0 ≤ (M 1 9).toInt ∧ (M 1 9).toInt < 4) ∧ M 2 2 = d ∧ M 6 = ρ
theorem SC.sa {d : Int32} {ρ : Nat → Int32} {M : Mem} {c k : Nat} {v : Int32} (h : SC d ρ M) (hc : c ≠ 1 ∧ c ≠ 2 ∧ c ≠ 6) : SC d ρ (mst M c k v) := by
  have h1 : mst M c k v 1 = M 1 := if_neg (Ne.symm hc.1)
  have h2 : mst M c k v 2 = M 2 := if_neg (Ne.symm hc.2.1)
  have h6 : mst M c k v 6 = M 6 := if_neg (Ne.symm hc.2.2)
  unfold SC; rw [h1, h2, h6]; exact h
theorem mst_ne {M : Mem} {c k j i : Nat} {v : Int32} (h : ¬ i = k) : mst M c k v j i = M j i := by
  unfold mst upd; split
  · rename_i hj; subst hj; exact if_neg h
  · rfl
theorem mst_no {M : Mem} {c k j : Nat} {v : Int32} (h : ¬ j = c) : mst M c k v j = M j := if_neg h
theorem mst_eq {M : Mem} {c k : Nat} {v : Int32} : mst M c k v c k = v := by unfold mst upd; rw [if_pos rfl, if_pos rfl]
theorem SC.s1 {d : Int32} {ρ : Nat → Int32} {M : Mem} {k : Nat} {v : Int32} (h : SC d ρ M) (hc : k ≠ 5 ∧ k ≠ 6 ∧ k ≠ 9) : SC d ρ (mst M 1 k v) := by
  unfold SC; rw [mst_ne (Ne.symm hc.1), mst_ne (Ne.symm hc.2.1), mst_ne (Ne.symm hc.2.2), mst_no (by decide), mst_no (by decide)]; exact h
theorem SC.s2 {d : Int32} {ρ : Nat → Int32} {M : Mem} {k : Nat} {v : Int32} (h : SC d ρ M) (hc : k ≠ 2) : SC d ρ (mst M 2 k v) := by
  unfold SC; rw [mst_no (by decide), mst_ne (Ne.symm hc), mst_no (by decide)]; exact h
theorem SC.s15 {d : Int32} {ρ : Nat → Int32} {M : Mem} {v : Int32} (h : SC d ρ M) (hc : 0 ≤ v.toInt ∧ v.toInt < 8) : SC d ρ (mst M 1 5 v) := by
  unfold SC; rw [mst_eq, mst_ne (by decide), mst_ne (by decide), mst_no (by decide), mst_no (by decide)]; exact ⟨hc, h.2⟩
theorem SC.s16 {d : Int32} {ρ : Nat → Int32} {M : Mem} {v : Int32} (h : SC d ρ M) (hc : 0 ≤ v.toInt ∧ v.toInt < 4) : SC d ρ (mst M 1 6 v) := by
  unfold SC; rw [mst_eq, mst_ne (by decide), mst_ne (by decide), mst_no (by decide), mst_no (by decide)]; exact ⟨h.1, hc, h.2.2⟩
theorem SC.s19 {d : Int32} {ρ : Nat → Int32} {M : Mem} {v : Int32} (h : SC d ρ M) (hc : 0 ≤ v.toInt ∧ v.toInt < 4) : SC d ρ (mst M 1 9 v) := by
  unfold SC; rw [mst_eq, mst_ne (by decide), mst_ne (by decide), mst_no (by decide), mst_no (by decide)]; exact ⟨h.1, h.2.1, hc, h.2.2.2⟩
theorem and_lt {x k : Int32} {n : Int} (hk : 0 ≤ k.toInt ∧ k.toInt < n) : 0 ≤ (x &&& k).toInt ∧ (x &&& k).toInt < n := by
  have h := and_rng x k hk.1
  omega
theorem bank_in {b x : Int32} (h : 0 ≤ b.toInt ∧ b.toInt < 8) : vp_in ((b * (1024 : Int32)) + (x &&& (1023 : Int32))) 8192 := by
  have h1 := and_rng x 1023 (by decide)
  have h2 : (1023 : Int32).toInt = 1023 := by decide
  have h3 : (1024 : Int32).toInt = 1024 := by decide
  have h4 : (b * (1024 : Int32)).toInt = b.toInt * 1024 := by rw [ti_mul (by rw [h3]; omega) (by rw [h3]; omega), h3]
  rw [vp_iff, ti_add (by omega) (by omega)]
  omega
theorem ram_in {b x : Int32} (h : 0 ≤ b.toInt ∧ b.toInt < 4) : vp_in ((b * (256 : Int32)) + (x &&& (255 : Int32))) 1024 := by
  have h1 := and_rng x 255 (by decide)
  have h2 : (255 : Int32).toInt = 255 := by decide
  have h3 : (256 : Int32).toInt = 256 := by decide
  have h4 : (b * (256 : Int32)).toInt = b.toInt * 256 := by rw [ti_mul (by rw [h3]; omega) (by rw [h3]; omega), h3]
  rw [vp_iff, ti_add (by omega) (by omega)]
  omega
theorem map_in {x u v : Int32} (h : 0 ≤ x.toInt) (h' : x.toInt ≤ 7168) : vp_in ((x + ((32 : Int32) * (u &&& (31 : Int32)))) + (v &&& (31 : Int32))) 8192 := by
  have h1 := and_rng u 31 (by decide)
  have h2 := and_rng v 31 (by decide)
  have h3 : (31 : Int32).toInt = 31 := by decide
  have h4 : (32 : Int32).toInt = 32 := by decide
  have h5 : ((32 : Int32) * (u &&& (31 : Int32))).toInt = 32 * (u &&& (31 : Int32)).toInt := by rw [ti_mul (by rw [h4]; omega) (by rw [h4]; omega), h4]
  have h6 : (x + ((32 : Int32) * (u &&& (31 : Int32)))).toInt = x.toInt + 32 * (u &&& (31 : Int32)).toInt := by rw [ti_add (by omega) (by omega), h5]
  rw [vp_iff, ti_add (by omega) (by omega)]
  omega
theorem obp_in {x : Int32} : vp_in ((72 : Int32) + (x &&& (1 : Int32))) 256 := by
  have h1 := and_rng x 1 (by decide)
  have h3 : (1 : Int32).toInt = 1 := by decide
  have h4 : (72 : Int32).toInt = 72 := by decide
  rw [vp_iff, ti_add (by omega) (by omega)]
  omega
theorem tvc1_in : ∀ k : Nat, vp_in (tv_c1 k) 8
  | 0 => vp_iff.mpr (by decide)
  | 1 => vp_iff.mpr (by decide)
  | 2 => vp_iff.mpr (by decide)
  | 3 => vp_iff.mpr (by decide)
  | 4 => vp_iff.mpr (by decide)
  | 5 => vp_iff.mpr (by decide)
  | 6 => vp_iff.mpr (by decide)
  | 7 => vp_iff.mpr (by decide)
  | _ + 8 => show vp_in 0 8 from vp_iff.mpr (by decide)
set_option maxRecDepth 100000 in
set_option maxHeartbeats 4000000 in
theorem so_K_settle_j2 {d : Int32} {ρ : Nat → Int32} {Q : Mem → Prop} (M10 : Mem) (x13 : Int32) (s_M10 : SC d ρ M10) (hp0 : 0 ≤ (x13).toInt ∧ (x13).toInt < 4) (hQ : ∀ (M' : Mem), SC d ρ M' → Q M') : Q (f_K_settle_j2_m M10 x13) := by
  unfold f_K_settle_j2_m
  (try dsimp only)
  have s_M14 : SC d ρ (mst M10 1 6 x13) := SC.s16 s_M10 hp0
  generalize e_M14 : mst M10 1 6 x13 = M14 at s_M14 ⊢
  exact hQ _ s_M14
set_option maxRecDepth 100000 in
set_option maxHeartbeats 4000000 in
theorem so_K_settle_j3 {d : Int32} {ρ : Nat → Int32} {Q : Mem → Prop} (M10 : Mem) (s_M10 : SC d ρ M10) (hQ : ∀ (M' : Mem), SC d ρ M' → Q M') : Q (f_K_settle_j3_m M10) := by
  unfold f_K_settle_j3_m
  (try dsimp only)
  exact so_K_settle_j2 (d := d) (ρ := ρ) M10 (M10 1 9) s_M10 (by exact s_M10.2.2.1) hQ
set_option maxRecDepth 100000 in
set_option maxHeartbeats 4000000 in
theorem so_K_settle_j1 {d : Int32} {ρ : Nat → Int32} {Q : Mem → Prop} (M0 : Mem) (x8 : Int32) (s_M0 : SC d ρ M0) (hp0 : isB x8) (hQ : ∀ (M' : Mem), SC d ρ M' → Q M') : ok_K_settle_j1 M0 x8 ∧ Q (f_K_settle_j1_m M0 x8) := by
  unfold ok_K_settle_j1 f_K_settle_j1_m
  (try dsimp only)
  refine And.intro (by assumption) ?_
  have s_M9 : SC d ρ (mst M0 1 4 x8) := SC.s1 s_M0 (by decide)
  generalize e_M9 : mst M0 1 4 x8 = M9 at s_M9 ⊢
  have s_M10 : SC d ρ (mst M9 1 5 ((M9 1 8) &&& (7 : Int32))) := SC.s15 s_M9 (and_lt (by decide))
  generalize e_M10 : mst M9 1 5 ((M9 1 8) &&& (7 : Int32)) = M10 at s_M10 ⊢
  by_cases hc1 : (M10 1 3) = (1 : Int32)
  · skip
    (try simp only [if_pos hc1])
    by_cases hc2 : (M10 1 10) = 0
    · skip
      (try simp only [if_pos hc2])
      exact so_K_settle_j2 (d := d) (ρ := ρ) M10 (0 : Int32) s_M10 (by first | assumption | decide) hQ
    · skip
      (try simp only [if_neg hc2])
      exact so_K_settle_j3 (d := d) (ρ := ρ) M10 s_M10 hQ
  · skip
    (try simp only [if_neg hc1])
    exact so_K_settle_j3 (d := d) (ρ := ρ) M10 s_M10 hQ
set_option maxRecDepth 100000 in
set_option maxHeartbeats 4000000 in
theorem so_K_settle_j4 {d : Int32} {ρ : Nat → Int32} {Q : Mem → Prop} (M0 : Mem) (s_M0 : SC d ρ M0) (hQ : ∀ (M' : Mem), SC d ρ M' → Q M') : ok_K_settle_j4 M0 ∧ Q (f_K_settle_j4_m M0) := by
  unfold ok_K_settle_j4 f_K_settle_j4_m
  (try dsimp only)
  exact so_K_settle_j1 (d := d) (ρ := ρ) M0 (0 : Int32) s_M0 (by exact isB_0) hQ
set_option maxRecDepth 100000 in
set_option maxHeartbeats 4000000 in
theorem so_K_settle_j5 {d : Int32} {ρ : Nat → Int32} {Q : Mem → Prop} (M0 : Mem) (s_M0 : SC d ρ M0) (hQ : ∀ (M' : Mem), SC d ρ M' → Q M') : ok_K_settle_j5 M0 ∧ Q (f_K_settle_j5_m M0) := by
  unfold ok_K_settle_j5 f_K_settle_j5_m
  (try dsimp only)
  exact so_K_settle_j1 (d := d) (ρ := ρ) M0 (1 : Int32) s_M0 (by exact isB_1) hQ
set_option maxRecDepth 100000 in
set_option maxHeartbeats 4000000 in
theorem sq_K_settle {d : Int32} {ρ : Nat → Int32} {Q : Mem → Prop} (M0 : Mem) (s_M0 : SC d ρ M0) (hQ : ∀ (M' : Mem), SC d ρ M' → Q M') : ok_K_settle M0 ∧ Q (f_K_settle_m M0) := by
  unfold ok_K_settle f_K_settle_m
  (try dsimp only)
  by_cases hc1 : (M0 1 2) = 0
  · skip
    refine ps_brp hc1 ?_
    (try simp only [if_pos hc1])
    exact so_K_settle_j4 (d := d) (ρ := ρ) M0 s_M0 hQ
  · skip
    refine ps_brn hc1 ?_
    (try simp only [if_neg hc1])
    by_cases hc2 : (M0 1 3) = 0
    · skip
      refine ps_brp hc2 ?_
      (try simp only [if_pos hc2])
      exact so_K_settle_j5 (d := d) (ρ := ρ) M0 s_M0 hQ
    · skip
      refine ps_brn hc2 ?_
      (try simp only [if_neg hc2])
      by_cases hc3 : (M0 1 7) = 0
      · skip
        refine ps_brp hc3 ?_
        (try simp only [if_pos hc3])
        exact so_K_settle_j4 (d := d) (ρ := ρ) M0 s_M0 hQ
      · skip
        refine ps_brn hc3 ?_
        (try simp only [if_neg hc3])
        exact so_K_settle_j5 (d := d) (ρ := ρ) M0 s_M0 hQ
theorem so_K_settle {d : Int32} {ρ : Nat → Int32} (M0 : Mem) (s_M0 : SC d ρ M0) : ok_K_settle M0 ∧ SC d ρ (f_K_settle_m M0) := sq_K_settle (d := d) (ρ := ρ) (Q := fun M' => SC d ρ M') M0 s_M0  (fun _ h0 => h0)
set_option maxRecDepth 100000 in
set_option maxHeartbeats 4000000 in
theorem sq_K_reset {d : Int32} {ρ : Nat → Int32} {Q : Mem → Prop} (M0 : Mem) (s_M0 : SC d ρ M0) (hQ : ∀ (M' : Mem), SC d ρ M' → Q M') : ok_K_reset M0 ∧ Q (f_K_reset_m M0) := by
  unfold ok_K_reset f_K_reset_m
  (try dsimp only)
  refine ps_let ?_
  have s_M1 : SC d ρ (mst M0 1 7 (0 : Int32)) := SC.s1 s_M0 (by decide)
  generalize e_M1 : mst M0 1 7 (0 : Int32) = M1 at s_M1 ⊢
  refine ps_let ?_
  have s_M2 : SC d ρ (mst M1 1 8 (1 : Int32)) := SC.s1 s_M1 (by decide)
  generalize e_M2 : mst M1 1 8 (1 : Int32) = M2 at s_M2 ⊢
  refine ps_let ?_
  have s_M3 : SC d ρ (mst M2 1 9 (0 : Int32)) := SC.s19 s_M2 (by decide)
  generalize e_M3 : mst M2 1 9 (0 : Int32) = M3 at s_M3 ⊢
  refine ps_let ?_
  have s_M4 : SC d ρ (mst M3 1 10 (0 : Int32)) := SC.s1 s_M3 (by decide)
  generalize e_M4 : mst M3 1 10 (0 : Int32) = M4 at s_M4 ⊢
  have t_ := so_K_settle (d := d) (ρ := ρ) M4 s_M4 
  refine And.intro t_.1 ?_
  replace t_ := t_.2
  generalize e_M5 : f_K_settle_m M4 = M5 at t_ ⊢
  have s_M5 := t_
  exact hQ _ s_M5
theorem so_K_reset {d : Int32} {ρ : Nat → Int32} (M0 : Mem) (s_M0 : SC d ρ M0) : ok_K_reset M0 ∧ SC d ρ (f_K_reset_m M0) := sq_K_reset (d := d) (ρ := ρ) (Q := fun M' => SC d ρ M') M0 s_M0  (fun _ h0 => h0)
set_option maxRecDepth 100000 in
set_option maxHeartbeats 4000000 in
theorem so_P_findState_j1 {d : Int32} {ρ : Nat → Int32} {Q : Mem → Prop} (M10 : Mem) (s_M10 : SC d ρ M10) (hQ : ∀ (M' : Mem), SC d ρ M' → Q M') : Q (f_P_findState_j1_m M10) := by
  unfold f_P_findState_j1_m
  (try dsimp only)
  exact hQ _ s_M10
set_option maxRecDepth 100000 in
set_option maxHeartbeats 4000000 in
theorem so_P_findState_j2 {d : Int32} {ρ : Nat → Int32} {Q : Mem → Prop} (M0 : Mem) (x13 : Int32) (s_M0 : SC d ρ M0) (hQ : ∀ (M' : Mem), SC d ρ M' → Q M') : Q (f_P_findState_j2_m M0 x13) := by
  unfold f_P_findState_j2_m
  (try dsimp only)
  have s_M14 : SC d ρ (mst M0 2 6 x13) := SC.s2 s_M0 (by decide)
  generalize e_M14 : mst M0 2 6 x13 = M14 at s_M14 ⊢
  exact so_P_findState_j1 (d := d) (ρ := ρ) M14 s_M14 hQ
set_option maxRecDepth 100000 in
set_option maxHeartbeats 4000000 in
theorem sq_P_findState {d : Int32} {ρ : Nat → Int32} {Q : Mem → Prop} (M0 : Mem) (s_M0 : SC d ρ M0) (hQ : ∀ (M' : Mem), SC d ρ M' → Q M') : Q (f_P_findState_m M0) := by
  unfold f_P_findState_m
  (try dsimp only)
  by_cases hc1 : ((M0 8 64) &&& (128 : Int32)) = 0
  · skip
    (try simp only [if_pos hc1])
    have s_M16 : SC d ρ (mst M0 2 4 (0 : Int32)) := SC.s2 s_M0 (by decide)
    generalize e_M16 : mst M0 2 4 (0 : Int32) = M16 at s_M16 ⊢
    have s_M17 : SC d ρ (mst M16 2 5 (0 : Int32)) := SC.s2 s_M16 (by decide)
    generalize e_M17 : mst M16 2 5 (0 : Int32) = M17 at s_M17 ⊢
    have s_M18 : SC d ρ (mst M17 2 6 (0 : Int32)) := SC.s2 s_M17 (by decide)
    generalize e_M18 : mst M17 2 6 (0 : Int32) = M18 at s_M18 ⊢
    exact so_P_findState_j1 (d := d) (ρ := ρ) M18 s_M18 hQ
  · skip
    (try simp only [if_neg hc1])
    by_cases hc2 : (M0 2 5) < (144 : Int32)
    · skip
      (try simp only [if_pos hc2])
      by_cases hc3 : (20 : Int32) ≤ (M0 2 4)
      · skip
        (try simp only [if_pos hc3])
        by_cases hc4 : (63 : Int32) ≤ (M0 2 4)
        · skip
          (try simp only [if_pos hc4])
          exact so_P_findState_j2 (d := d) (ρ := ρ) M0 (0 : Int32) s_M0 hQ
        · skip
          (try simp only [if_neg hc4])
          exact so_P_findState_j2 (d := d) (ρ := ρ) M0 (3 : Int32) s_M0 hQ
      · skip
        (try simp only [if_neg hc3])
        exact so_P_findState_j2 (d := d) (ρ := ρ) M0 (2 : Int32) s_M0 hQ
    · skip
      (try simp only [if_neg hc2])
      have s_M15 : SC d ρ (mst M0 2 6 (1 : Int32)) := SC.s2 s_M0 (by decide)
      generalize e_M15 : mst M0 2 6 (1 : Int32) = M15 at s_M15 ⊢
      exact so_P_findState_j1 (d := d) (ρ := ρ) M15 s_M15 hQ
theorem so_P_findState {d : Int32} {ρ : Nat → Int32} (M0 : Mem) (s_M0 : SC d ρ M0) : SC d ρ (f_P_findState_m M0) := sq_P_findState (d := d) (ρ := ρ) (Q := fun M' => SC d ρ M') M0 s_M0  (fun _ h0 => h0)
set_option maxRecDepth 100000 in
set_option maxHeartbeats 4000000 in
theorem so_A_fill8_l1 {d : Int32} {ρ : Nat → Int32} {Q : Mem → Prop} (a2 : Int32) (hQ : ∀ (M' : Mem), SC d ρ M' → Q M') : ∀ (n : Nat) (x1 : Int32) (M2 : Mem), SC d ρ M2 → 0 ≤ (x1).toInt → (x1).toInt ≤ 256 → 256 < (x1).toInt + n → ok_A_fill8_l1 a2 n x1 M2 ∧ Q (f_A_fill8_l1_m a2 n x1 M2) := by
  intro n
  induction n with
  | zero =>
    intro x1 M2 s_M2 hL0 hL1 hL2
    exact False.elim (by (try simp only [ti_le, ti_lt, Int32.reduceToInt] at *) <;> omega)
  | succ n ih =>
    intro x1 M2 s_M2 hL0 hL1 hL2
    have hK1 := ih
    show (((((256 : Int32) ≤ x1) → True) ∧ ((¬ (256 : Int32) ≤ x1) → vp_in x1 256 ∧ (∀ M3 : Mem, M3 = mst M2 8 x1.toNatClampNeg a2 → ∀ x4 : Int32, x4 = x1 + (1 : Int32) → (ok_A_fill8_l1 a2 n) x4 M3)))) ∧ Q ((if (256 : Int32) ≤ x1 then M2 else let M3 : Mem := mst M2 8 x1.toNatClampNeg a2; let x4 : Int32 := x1 + (1 : Int32); ((f_A_fill8_l1_m a2 n) x4 M3)))
    (try dsimp only)
    by_cases hc2 : (256 : Int32) ≤ x1
    · skip
      refine ps_brp hc2 ?_
      refine And.intro trivial ?_
      (try simp only [if_pos hc2])
      exact hQ _ s_M2
    · skip
      refine ps_brn hc2 ?_
      (try simp only [if_neg hc2])
      refine ps_and (by first | assumption | (rw [vp_iff]; constructor <;> ((try simp only [ti_le, ti_lt, Int32.reduceToInt] at *) <;> omega))) ?_
      refine ps_let ?_
      have s_M3 : SC d ρ (mst M2 8 x1.toNatClampNeg a2) := SC.sa s_M2 (by decide)
      generalize e_M3 : mst M2 8 x1.toNatClampNeg a2 = M3 at s_M3 ⊢
      refine ps_let ?_
      generalize e_x4 : x1 + (1 : Int32) = x4
      have a_x4 : x4.toInt = x1.toInt + 1 := by rw [← e_x4, ti_add (by (try simp only [ti_le, ti_lt, Int32.reduceToInt] at *) <;> omega) (by (try simp only [ti_le, ti_lt, Int32.reduceToInt] at *) <;> omega)]; rfl
      exact hK1 x4 M3 s_M3 (by first | assumption | ((try simp only [ti_le, ti_lt, Int32.reduceToInt] at *) <;> omega)) (by first | assumption | ((try simp only [ti_le, ti_lt, Int32.reduceToInt] at *) <;> omega)) (by first | assumption | ((try simp only [ti_le, ti_lt, Int32.reduceToInt] at *) <;> omega))
set_option maxRecDepth 100000 in
set_option maxHeartbeats 4000000 in
theorem sq_A_fill8 {d : Int32} {ρ : Nat → Int32} {Q : Mem → Prop} (M0 : Mem) (a2 : Int32) (s_M0 : SC d ρ M0) (hQ : ∀ (M' : Mem), SC d ρ M' → Q M') : ok_A_fill8 M0 a2 ∧ Q (f_A_fill8_m M0 a2) := by
  unfold ok_A_fill8 f_A_fill8_m
  (try dsimp only)
  exact so_A_fill8_l1 (d := d) (ρ := ρ) a2 hQ 257 (0 : Int32) M0 s_M0 (by first | assumption | ((try simp only [ti_le, ti_lt, Int32.reduceToInt] at *) <;> omega)) (by first | assumption | ((try simp only [ti_le, ti_lt, Int32.reduceToInt] at *) <;> omega)) (by first | assumption | ((try simp only [ti_le, ti_lt, Int32.reduceToInt] at *) <;> omega))
theorem so_A_fill8 {d : Int32} {ρ : Nat → Int32} (M0 : Mem) (a2 : Int32) (s_M0 : SC d ρ M0) : ok_A_fill8 M0 a2 ∧ SC d ρ (f_A_fill8_m M0 a2) := sq_A_fill8 (d := d) (ρ := ρ) (Q := fun M' => SC d ρ M') M0 a2 s_M0  (fun _ h0 => h0)
set_option maxRecDepth 100000 in
set_option maxHeartbeats 4000000 in
theorem sq_P_reset {d : Int32} {ρ : Nat → Int32} {Q : Mem → Prop} (M0 : Mem) (s_M0 : SC d ρ M0) (hQ : ∀ (M' : Mem), SC d ρ M' → Q M') : ok_P_reset M0 ∧ Q (f_P_reset_m M0) := by
  unfold ok_P_reset f_P_reset_m
  (try dsimp only)
  have t_ := so_A_fill8 (d := d) (ρ := ρ) M0 (0 : Int32) s_M0 
  refine And.intro t_.1 ?_
  replace t_ := t_.2
  generalize e_M1 : f_A_fill8_m M0 (0 : Int32) = M1 at t_ ⊢
  have s_M1 := t_
  have s_M2 : SC d ρ (mst M1 8 64 (145 : Int32)) := SC.sa s_M1 (by decide)
  generalize e_M2 : mst M1 8 64 (145 : Int32) = M2 at s_M2 ⊢
  have s_M3 : SC d ρ (mst M2 8 71 (252 : Int32)) := SC.sa s_M2 (by decide)
  generalize e_M3 : mst M2 8 71 (252 : Int32) = M3 at s_M3 ⊢
  have s_M4 : SC d ρ (mst M3 8 15 (1 : Int32)) := SC.sa s_M3 (by decide)
  generalize e_M4 : mst M3 8 15 (1 : Int32) = M4 at s_M4 ⊢
  have s_M5 : SC d ρ (mst M4 2 1 (0 : Int32)) := SC.s2 s_M4 (by decide)
  generalize e_M5 : mst M4 2 1 (0 : Int32) = M5 at s_M5 ⊢
  have s_M6 : SC d ρ (mst M5 2 3 (0 : Int32)) := SC.s2 s_M5 (by decide)
  generalize e_M6 : mst M5 2 3 (0 : Int32) = M6 at s_M6 ⊢
  have s_M7 : SC d ρ (mst M6 2 4 (0 : Int32)) := SC.s2 s_M6 (by decide)
  generalize e_M7 : mst M6 2 4 (0 : Int32) = M7 at s_M7 ⊢
  have s_M8 : SC d ρ (mst M7 2 5 (0 : Int32)) := SC.s2 s_M7 (by decide)
  generalize e_M8 : mst M7 2 5 (0 : Int32) = M8 at s_M8 ⊢
  have s_M9 : SC d ρ (mst M8 2 7 (0 : Int32)) := SC.s2 s_M8 (by decide)
  generalize e_M9 : mst M8 2 7 (0 : Int32) = M9 at s_M9 ⊢
  have t_ := so_P_findState (d := d) (ρ := ρ) M9 s_M9 
  generalize e_M10 : f_P_findState_m M9 = M10 at t_ ⊢
  have s_M10 := t_
  exact hQ _ s_M10
theorem so_P_reset {d : Int32} {ρ : Nat → Int32} (M0 : Mem) (s_M0 : SC d ρ M0) : ok_P_reset M0 ∧ SC d ρ (f_P_reset_m M0) := sq_P_reset (d := d) (ρ := ρ) (Q := fun M' => SC d ρ M') M0 s_M0  (fun _ h0 => h0)
set_option maxRecDepth 100000 in
set_option maxHeartbeats 4000000 in
theorem so_A_fill9_l1 {d : Int32} {ρ : Nat → Int32} {Q : Mem → Prop} (a2 : Int32) (hQ : ∀ (M' : Mem), SC d ρ M' → Q M') : ∀ (n : Nat) (x1 : Int32) (M2 : Mem), SC d ρ M2 → 0 ≤ (x1).toInt → (x1).toInt ≤ 8192 → 8192 < (x1).toInt + n → ok_A_fill9_l1 a2 n x1 M2 ∧ Q (f_A_fill9_l1_m a2 n x1 M2) := by
  intro n
  induction n with
  | zero =>
    intro x1 M2 s_M2 hL0 hL1 hL2
    exact False.elim (by (try simp only [ti_le, ti_lt, Int32.reduceToInt] at *) <;> omega)
  | succ n ih =>
    intro x1 M2 s_M2 hL0 hL1 hL2
    have hK1 := ih
    show (((((8192 : Int32) ≤ x1) → True) ∧ ((¬ (8192 : Int32) ≤ x1) → vp_in x1 8192 ∧ (∀ M3 : Mem, M3 = mst M2 9 x1.toNatClampNeg a2 → ∀ x4 : Int32, x4 = x1 + (1 : Int32) → (ok_A_fill9_l1 a2 n) x4 M3)))) ∧ Q ((if (8192 : Int32) ≤ x1 then M2 else let M3 : Mem := mst M2 9 x1.toNatClampNeg a2; let x4 : Int32 := x1 + (1 : Int32); ((f_A_fill9_l1_m a2 n) x4 M3)))
    (try dsimp only)
    by_cases hc2 : (8192 : Int32) ≤ x1
    · skip
      refine ps_brp hc2 ?_
      refine And.intro trivial ?_
      (try simp only [if_pos hc2])
      exact hQ _ s_M2
    · skip
      refine ps_brn hc2 ?_
      (try simp only [if_neg hc2])
      refine ps_and (by first | assumption | (rw [vp_iff]; constructor <;> ((try simp only [ti_le, ti_lt, Int32.reduceToInt] at *) <;> omega))) ?_
      refine ps_let ?_
      have s_M3 : SC d ρ (mst M2 9 x1.toNatClampNeg a2) := SC.sa s_M2 (by decide)
      generalize e_M3 : mst M2 9 x1.toNatClampNeg a2 = M3 at s_M3 ⊢
      refine ps_let ?_
      generalize e_x4 : x1 + (1 : Int32) = x4
      have a_x4 : x4.toInt = x1.toInt + 1 := by rw [← e_x4, ti_add (by (try simp only [ti_le, ti_lt, Int32.reduceToInt] at *) <;> omega) (by (try simp only [ti_le, ti_lt, Int32.reduceToInt] at *) <;> omega)]; rfl
      exact hK1 x4 M3 s_M3 (by first | assumption | ((try simp only [ti_le, ti_lt, Int32.reduceToInt] at *) <;> omega)) (by first | assumption | ((try simp only [ti_le, ti_lt, Int32.reduceToInt] at *) <;> omega)) (by first | assumption | ((try simp only [ti_le, ti_lt, Int32.reduceToInt] at *) <;> omega))
set_option maxRecDepth 100000 in
set_option maxHeartbeats 4000000 in
theorem sq_A_fill9 {d : Int32} {ρ : Nat → Int32} {Q : Mem → Prop} (M0 : Mem) (a2 : Int32) (s_M0 : SC d ρ M0) (hQ : ∀ (M' : Mem), SC d ρ M' → Q M') : ok_A_fill9 M0 a2 ∧ Q (f_A_fill9_m M0 a2) := by
  unfold ok_A_fill9 f_A_fill9_m
  (try dsimp only)
  exact so_A_fill9_l1 (d := d) (ρ := ρ) a2 hQ 8193 (0 : Int32) M0 s_M0 (by first | assumption | ((try simp only [ti_le, ti_lt, Int32.reduceToInt] at *) <;> omega)) (by first | assumption | ((try simp only [ti_le, ti_lt, Int32.reduceToInt] at *) <;> omega)) (by first | assumption | ((try simp only [ti_le, ti_lt, Int32.reduceToInt] at *) <;> omega))
theorem so_A_fill9 {d : Int32} {ρ : Nat → Int32} (M0 : Mem) (a2 : Int32) (s_M0 : SC d ρ M0) : ok_A_fill9 M0 a2 ∧ SC d ρ (f_A_fill9_m M0 a2) := sq_A_fill9 (d := d) (ρ := ρ) (Q := fun M' => SC d ρ M') M0 a2 s_M0  (fun _ h0 => h0)
set_option maxRecDepth 100000 in
set_option maxHeartbeats 4000000 in
theorem so_A_fill10_l1 {d : Int32} {ρ : Nat → Int32} {Q : Mem → Prop} (a2 : Int32) (hQ : ∀ (M' : Mem), SC d ρ M' → Q M') : ∀ (n : Nat) (x1 : Int32) (M2 : Mem), SC d ρ M2 → 0 ≤ (x1).toInt → (x1).toInt ≤ 160 → 160 < (x1).toInt + n → ok_A_fill10_l1 a2 n x1 M2 ∧ Q (f_A_fill10_l1_m a2 n x1 M2) := by
  intro n
  induction n with
  | zero =>
    intro x1 M2 s_M2 hL0 hL1 hL2
    exact False.elim (by (try simp only [ti_le, ti_lt, Int32.reduceToInt] at *) <;> omega)
  | succ n ih =>
    intro x1 M2 s_M2 hL0 hL1 hL2
    have hK1 := ih
    show (((((160 : Int32) ≤ x1) → True) ∧ ((¬ (160 : Int32) ≤ x1) → vp_in x1 160 ∧ (∀ M3 : Mem, M3 = mst M2 10 x1.toNatClampNeg a2 → ∀ x4 : Int32, x4 = x1 + (1 : Int32) → (ok_A_fill10_l1 a2 n) x4 M3)))) ∧ Q ((if (160 : Int32) ≤ x1 then M2 else let M3 : Mem := mst M2 10 x1.toNatClampNeg a2; let x4 : Int32 := x1 + (1 : Int32); ((f_A_fill10_l1_m a2 n) x4 M3)))
    (try dsimp only)
    by_cases hc2 : (160 : Int32) ≤ x1
    · skip
      refine ps_brp hc2 ?_
      refine And.intro trivial ?_
      (try simp only [if_pos hc2])
      exact hQ _ s_M2
    · skip
      refine ps_brn hc2 ?_
      (try simp only [if_neg hc2])
      refine ps_and (by first | assumption | (rw [vp_iff]; constructor <;> ((try simp only [ti_le, ti_lt, Int32.reduceToInt] at *) <;> omega))) ?_
      refine ps_let ?_
      have s_M3 : SC d ρ (mst M2 10 x1.toNatClampNeg a2) := SC.sa s_M2 (by decide)
      generalize e_M3 : mst M2 10 x1.toNatClampNeg a2 = M3 at s_M3 ⊢
      refine ps_let ?_
      generalize e_x4 : x1 + (1 : Int32) = x4
      have a_x4 : x4.toInt = x1.toInt + 1 := by rw [← e_x4, ti_add (by (try simp only [ti_le, ti_lt, Int32.reduceToInt] at *) <;> omega) (by (try simp only [ti_le, ti_lt, Int32.reduceToInt] at *) <;> omega)]; rfl
      exact hK1 x4 M3 s_M3 (by first | assumption | ((try simp only [ti_le, ti_lt, Int32.reduceToInt] at *) <;> omega)) (by first | assumption | ((try simp only [ti_le, ti_lt, Int32.reduceToInt] at *) <;> omega)) (by first | assumption | ((try simp only [ti_le, ti_lt, Int32.reduceToInt] at *) <;> omega))
set_option maxRecDepth 100000 in
set_option maxHeartbeats 4000000 in
theorem sq_A_fill10 {d : Int32} {ρ : Nat → Int32} {Q : Mem → Prop} (M0 : Mem) (a2 : Int32) (s_M0 : SC d ρ M0) (hQ : ∀ (M' : Mem), SC d ρ M' → Q M') : ok_A_fill10 M0 a2 ∧ Q (f_A_fill10_m M0 a2) := by
  unfold ok_A_fill10 f_A_fill10_m
  (try dsimp only)
  exact so_A_fill10_l1 (d := d) (ρ := ρ) a2 hQ 161 (0 : Int32) M0 s_M0 (by first | assumption | ((try simp only [ti_le, ti_lt, Int32.reduceToInt] at *) <;> omega)) (by first | assumption | ((try simp only [ti_le, ti_lt, Int32.reduceToInt] at *) <;> omega)) (by first | assumption | ((try simp only [ti_le, ti_lt, Int32.reduceToInt] at *) <;> omega))
theorem so_A_fill10 {d : Int32} {ρ : Nat → Int32} (M0 : Mem) (a2 : Int32) (s_M0 : SC d ρ M0) : ok_A_fill10 M0 a2 ∧ SC d ρ (f_A_fill10_m M0 a2) := sq_A_fill10 (d := d) (ρ := ρ) (Q := fun M' => SC d ρ M') M0 a2 s_M0  (fun _ h0 => h0)
set_option maxRecDepth 100000 in
set_option maxHeartbeats 4000000 in
theorem so_A_fill11_l1 {d : Int32} {ρ : Nat → Int32} {Q : Mem → Prop} (a2 : Int32) (hQ : ∀ (M' : Mem), SC d ρ M' → Q M') : ∀ (n : Nat) (x1 : Int32) (M2 : Mem), SC d ρ M2 → 0 ≤ (x1).toInt → (x1).toInt ≤ 1024 → 1024 < (x1).toInt + n → ok_A_fill11_l1 a2 n x1 M2 ∧ Q (f_A_fill11_l1_m a2 n x1 M2) := by
  intro n
  induction n with
  | zero =>
    intro x1 M2 s_M2 hL0 hL1 hL2
    exact False.elim (by (try simp only [ti_le, ti_lt, Int32.reduceToInt] at *) <;> omega)
  | succ n ih =>
    intro x1 M2 s_M2 hL0 hL1 hL2
    have hK1 := ih
    show (((((1024 : Int32) ≤ x1) → True) ∧ ((¬ (1024 : Int32) ≤ x1) → vp_in x1 1024 ∧ (∀ M3 : Mem, M3 = mst M2 11 x1.toNatClampNeg a2 → ∀ x4 : Int32, x4 = x1 + (1 : Int32) → (ok_A_fill11_l1 a2 n) x4 M3)))) ∧ Q ((if (1024 : Int32) ≤ x1 then M2 else let M3 : Mem := mst M2 11 x1.toNatClampNeg a2; let x4 : Int32 := x1 + (1 : Int32); ((f_A_fill11_l1_m a2 n) x4 M3)))
    (try dsimp only)
    by_cases hc2 : (1024 : Int32) ≤ x1
    · skip
      refine ps_brp hc2 ?_
      refine And.intro trivial ?_
      (try simp only [if_pos hc2])
      exact hQ _ s_M2
    · skip
      refine ps_brn hc2 ?_
      (try simp only [if_neg hc2])
      refine ps_and (by first | assumption | (rw [vp_iff]; constructor <;> ((try simp only [ti_le, ti_lt, Int32.reduceToInt] at *) <;> omega))) ?_
      refine ps_let ?_
      have s_M3 : SC d ρ (mst M2 11 x1.toNatClampNeg a2) := SC.sa s_M2 (by decide)
      generalize e_M3 : mst M2 11 x1.toNatClampNeg a2 = M3 at s_M3 ⊢
      refine ps_let ?_
      generalize e_x4 : x1 + (1 : Int32) = x4
      have a_x4 : x4.toInt = x1.toInt + 1 := by rw [← e_x4, ti_add (by (try simp only [ti_le, ti_lt, Int32.reduceToInt] at *) <;> omega) (by (try simp only [ti_le, ti_lt, Int32.reduceToInt] at *) <;> omega)]; rfl
      exact hK1 x4 M3 s_M3 (by first | assumption | ((try simp only [ti_le, ti_lt, Int32.reduceToInt] at *) <;> omega)) (by first | assumption | ((try simp only [ti_le, ti_lt, Int32.reduceToInt] at *) <;> omega)) (by first | assumption | ((try simp only [ti_le, ti_lt, Int32.reduceToInt] at *) <;> omega))
set_option maxRecDepth 100000 in
set_option maxHeartbeats 4000000 in
theorem sq_A_fill11 {d : Int32} {ρ : Nat → Int32} {Q : Mem → Prop} (M0 : Mem) (a2 : Int32) (s_M0 : SC d ρ M0) (hQ : ∀ (M' : Mem), SC d ρ M' → Q M') : ok_A_fill11 M0 a2 ∧ Q (f_A_fill11_m M0 a2) := by
  unfold ok_A_fill11 f_A_fill11_m
  (try dsimp only)
  exact so_A_fill11_l1 (d := d) (ρ := ρ) a2 hQ 1025 (0 : Int32) M0 s_M0 (by first | assumption | ((try simp only [ti_le, ti_lt, Int32.reduceToInt] at *) <;> omega)) (by first | assumption | ((try simp only [ti_le, ti_lt, Int32.reduceToInt] at *) <;> omega)) (by first | assumption | ((try simp only [ti_le, ti_lt, Int32.reduceToInt] at *) <;> omega))
theorem so_A_fill11 {d : Int32} {ρ : Nat → Int32} (M0 : Mem) (a2 : Int32) (s_M0 : SC d ρ M0) : ok_A_fill11 M0 a2 ∧ SC d ρ (f_A_fill11_m M0 a2) := sq_A_fill11 (d := d) (ρ := ρ) (Q := fun M' => SC d ρ M') M0 a2 s_M0  (fun _ h0 => h0)
set_option maxRecDepth 100000 in
set_option maxHeartbeats 4000000 in
theorem so_A_fill12_l1 {d : Int32} {ρ : Nat → Int32} {Q : Mem → Prop} (a2 : Int32) (hQ : ∀ (M' : Mem), SC d ρ M' → Q M') : ∀ (n : Nat) (x1 : Int32) (M2 : Mem), SC d ρ M2 → 0 ≤ (x1).toInt → (x1).toInt ≤ 128 → 128 < (x1).toInt + n → ok_A_fill12_l1 a2 n x1 M2 ∧ Q (f_A_fill12_l1_m a2 n x1 M2) := by
  intro n
  induction n with
  | zero =>
    intro x1 M2 s_M2 hL0 hL1 hL2
    exact False.elim (by (try simp only [ti_le, ti_lt, Int32.reduceToInt] at *) <;> omega)
  | succ n ih =>
    intro x1 M2 s_M2 hL0 hL1 hL2
    have hK1 := ih
    show (((((128 : Int32) ≤ x1) → True) ∧ ((¬ (128 : Int32) ≤ x1) → vp_in x1 128 ∧ (∀ M3 : Mem, M3 = mst M2 12 x1.toNatClampNeg a2 → ∀ x4 : Int32, x4 = x1 + (1 : Int32) → (ok_A_fill12_l1 a2 n) x4 M3)))) ∧ Q ((if (128 : Int32) ≤ x1 then M2 else let M3 : Mem := mst M2 12 x1.toNatClampNeg a2; let x4 : Int32 := x1 + (1 : Int32); ((f_A_fill12_l1_m a2 n) x4 M3)))
    (try dsimp only)
    by_cases hc2 : (128 : Int32) ≤ x1
    · skip
      refine ps_brp hc2 ?_
      refine And.intro trivial ?_
      (try simp only [if_pos hc2])
      exact hQ _ s_M2
    · skip
      refine ps_brn hc2 ?_
      (try simp only [if_neg hc2])
      refine ps_and (by first | assumption | (rw [vp_iff]; constructor <;> ((try simp only [ti_le, ti_lt, Int32.reduceToInt] at *) <;> omega))) ?_
      refine ps_let ?_
      have s_M3 : SC d ρ (mst M2 12 x1.toNatClampNeg a2) := SC.sa s_M2 (by decide)
      generalize e_M3 : mst M2 12 x1.toNatClampNeg a2 = M3 at s_M3 ⊢
      refine ps_let ?_
      generalize e_x4 : x1 + (1 : Int32) = x4
      have a_x4 : x4.toInt = x1.toInt + 1 := by rw [← e_x4, ti_add (by (try simp only [ti_le, ti_lt, Int32.reduceToInt] at *) <;> omega) (by (try simp only [ti_le, ti_lt, Int32.reduceToInt] at *) <;> omega)]; rfl
      exact hK1 x4 M3 s_M3 (by first | assumption | ((try simp only [ti_le, ti_lt, Int32.reduceToInt] at *) <;> omega)) (by first | assumption | ((try simp only [ti_le, ti_lt, Int32.reduceToInt] at *) <;> omega)) (by first | assumption | ((try simp only [ti_le, ti_lt, Int32.reduceToInt] at *) <;> omega))
set_option maxRecDepth 100000 in
set_option maxHeartbeats 4000000 in
theorem sq_A_fill12 {d : Int32} {ρ : Nat → Int32} {Q : Mem → Prop} (M0 : Mem) (a2 : Int32) (s_M0 : SC d ρ M0) (hQ : ∀ (M' : Mem), SC d ρ M' → Q M') : ok_A_fill12 M0 a2 ∧ Q (f_A_fill12_m M0 a2) := by
  unfold ok_A_fill12 f_A_fill12_m
  (try dsimp only)
  exact so_A_fill12_l1 (d := d) (ρ := ρ) a2 hQ 129 (0 : Int32) M0 s_M0 (by first | assumption | ((try simp only [ti_le, ti_lt, Int32.reduceToInt] at *) <;> omega)) (by first | assumption | ((try simp only [ti_le, ti_lt, Int32.reduceToInt] at *) <;> omega)) (by first | assumption | ((try simp only [ti_le, ti_lt, Int32.reduceToInt] at *) <;> omega))
theorem so_A_fill12 {d : Int32} {ρ : Nat → Int32} (M0 : Mem) (a2 : Int32) (s_M0 : SC d ρ M0) : ok_A_fill12 M0 a2 ∧ SC d ρ (f_A_fill12_m M0 a2) := sq_A_fill12 (d := d) (ρ := ρ) (Q := fun M' => SC d ρ M') M0 a2 s_M0  (fun _ h0 => h0)
set_option maxRecDepth 100000 in
set_option maxHeartbeats 4000000 in
theorem sq_Y_reset {d : Int32} {ρ : Nat → Int32} {Q : Mem → Prop} (M0 : Mem) (s_M0 : SC d ρ M0) (hQ : ∀ (M' : Mem), SC d ρ M' → Q M') : ok_Y_reset M0 ∧ Q (f_Y_reset_m M0) := by
  unfold ok_Y_reset f_Y_reset_m
  (try dsimp only)
  have t_ := so_A_fill9 (d := d) (ρ := ρ) M0 (0 : Int32) s_M0 
  refine ps_and t_.1 ?_
  replace t_ := t_.2
  refine ps_let ?_
  generalize e_M1 : f_A_fill9_m M0 (0 : Int32) = M1 at t_ ⊢
  have s_M1 := t_
  have t_ := so_A_fill10 (d := d) (ρ := ρ) M1 (0 : Int32) s_M1 
  refine ps_and t_.1 ?_
  replace t_ := t_.2
  refine ps_let ?_
  generalize e_M2 : f_A_fill10_m M1 (0 : Int32) = M2 at t_ ⊢
  have s_M2 := t_
  have t_ := so_A_fill11 (d := d) (ρ := ρ) M2 (0 : Int32) s_M2 
  refine ps_and t_.1 ?_
  replace t_ := t_.2
  refine ps_let ?_
  generalize e_M3 : f_A_fill11_m M2 (0 : Int32) = M3 at t_ ⊢
  have s_M3 := t_
  have t_ := so_A_fill12 (d := d) (ρ := ρ) M3 (0 : Int32) s_M3 
  refine And.intro t_.1 ?_
  replace t_ := t_.2
  generalize e_M4 : f_A_fill12_m M3 (0 : Int32) = M4 at t_ ⊢
  have s_M4 := t_
  exact hQ _ s_M4
theorem so_Y_reset {d : Int32} {ρ : Nat → Int32} (M0 : Mem) (s_M0 : SC d ρ M0) : ok_Y_reset M0 ∧ SC d ρ (f_Y_reset_m M0) := sq_Y_reset (d := d) (ρ := ρ) (Q := fun M' => SC d ρ M') M0 s_M0  (fun _ h0 => h0)
set_option maxRecDepth 100000 in
set_option maxHeartbeats 4000000 in
theorem so_A_fill13_l1 {d : Int32} {ρ : Nat → Int32} {Q : Mem → Prop} (a2 : Int32) (hQ : ∀ (M' : Mem), SC d ρ M' → Q M') : ∀ (n : Nat) (x1 : Int32) (M2 : Mem), SC d ρ M2 → 0 ≤ (x1).toInt → (x1).toInt ≤ 160 → 160 < (x1).toInt + n → ok_A_fill13_l1 a2 n x1 M2 ∧ Q (f_A_fill13_l1_m a2 n x1 M2) := by
  intro n
  induction n with
  | zero =>
    intro x1 M2 s_M2 hL0 hL1 hL2
    exact False.elim (by (try simp only [ti_le, ti_lt, Int32.reduceToInt] at *) <;> omega)
  | succ n ih =>
    intro x1 M2 s_M2 hL0 hL1 hL2
    have hK1 := ih
    show (((((160 : Int32) ≤ x1) → True) ∧ ((¬ (160 : Int32) ≤ x1) → vp_in x1 160 ∧ (∀ M3 : Mem, M3 = mst M2 13 x1.toNatClampNeg a2 → ∀ x4 : Int32, x4 = x1 + (1 : Int32) → (ok_A_fill13_l1 a2 n) x4 M3)))) ∧ Q ((if (160 : Int32) ≤ x1 then M2 else let M3 : Mem := mst M2 13 x1.toNatClampNeg a2; let x4 : Int32 := x1 + (1 : Int32); ((f_A_fill13_l1_m a2 n) x4 M3)))
    (try dsimp only)
    by_cases hc2 : (160 : Int32) ≤ x1
    · skip
      refine ps_brp hc2 ?_
      refine And.intro trivial ?_
      (try simp only [if_pos hc2])
      exact hQ _ s_M2
    · skip
      refine ps_brn hc2 ?_
      (try simp only [if_neg hc2])
      refine ps_and (by first | assumption | (rw [vp_iff]; constructor <;> ((try simp only [ti_le, ti_lt, Int32.reduceToInt] at *) <;> omega))) ?_
      refine ps_let ?_
      have s_M3 : SC d ρ (mst M2 13 x1.toNatClampNeg a2) := SC.sa s_M2 (by decide)
      generalize e_M3 : mst M2 13 x1.toNatClampNeg a2 = M3 at s_M3 ⊢
      refine ps_let ?_
      generalize e_x4 : x1 + (1 : Int32) = x4
      have a_x4 : x4.toInt = x1.toInt + 1 := by rw [← e_x4, ti_add (by (try simp only [ti_le, ti_lt, Int32.reduceToInt] at *) <;> omega) (by (try simp only [ti_le, ti_lt, Int32.reduceToInt] at *) <;> omega)]; rfl
      exact hK1 x4 M3 s_M3 (by first | assumption | ((try simp only [ti_le, ti_lt, Int32.reduceToInt] at *) <;> omega)) (by first | assumption | ((try simp only [ti_le, ti_lt, Int32.reduceToInt] at *) <;> omega)) (by first | assumption | ((try simp only [ti_le, ti_lt, Int32.reduceToInt] at *) <;> omega))
set_option maxRecDepth 100000 in
set_option maxHeartbeats 4000000 in
theorem sq_A_fill13 {d : Int32} {ρ : Nat → Int32} {Q : Mem → Prop} (M0 : Mem) (a2 : Int32) (s_M0 : SC d ρ M0) (hQ : ∀ (M' : Mem), SC d ρ M' → Q M') : ok_A_fill13 M0 a2 ∧ Q (f_A_fill13_m M0 a2) := by
  unfold ok_A_fill13 f_A_fill13_m
  (try dsimp only)
  exact so_A_fill13_l1 (d := d) (ρ := ρ) a2 hQ 161 (0 : Int32) M0 s_M0 (by first | assumption | ((try simp only [ti_le, ti_lt, Int32.reduceToInt] at *) <;> omega)) (by first | assumption | ((try simp only [ti_le, ti_lt, Int32.reduceToInt] at *) <;> omega)) (by first | assumption | ((try simp only [ti_le, ti_lt, Int32.reduceToInt] at *) <;> omega))
theorem so_A_fill13 {d : Int32} {ρ : Nat → Int32} (M0 : Mem) (a2 : Int32) (s_M0 : SC d ρ M0) : ok_A_fill13 M0 a2 ∧ SC d ρ (f_A_fill13_m M0 a2) := sq_A_fill13 (d := d) (ρ := ρ) (Q := fun M' => SC d ρ M') M0 a2 s_M0  (fun _ h0 => h0)
set_option maxRecDepth 100000 in
set_option maxHeartbeats 4000000 in
theorem sq_S_reset {d : Int32} {ρ : Nat → Int32} {Q : Mem → Prop} (M0 : Mem) (s_M0 : SC d ρ M0) (hQ : ∀ (M' : Mem), SC d ρ M' → Q M') : ok_S_reset M0 ∧ Q (f_S_reset_m M0) := by
  unfold ok_S_reset f_S_reset_m
  (try dsimp only)
  have t_ := so_A_fill13 (d := d) (ρ := ρ) M0 (0 : Int32) s_M0 
  refine And.intro t_.1 ?_
  replace t_ := t_.2
  generalize e_M1 : f_A_fill13_m M0 (0 : Int32) = M1 at t_ ⊢
  have s_M1 := t_
  exact hQ _ s_M1
theorem so_S_reset {d : Int32} {ρ : Nat → Int32} (M0 : Mem) (s_M0 : SC d ρ M0) : ok_S_reset M0 ∧ SC d ρ (f_S_reset_m M0) := sq_S_reset (d := d) (ρ := ρ) (Q := fun M' => SC d ρ M') M0 s_M0  (fun _ h0 => h0)
set_option maxRecDepth 100000 in
set_option maxHeartbeats 4000000 in
theorem so_Q_setPair_j1 {d : Int32} {ρ : Nat → Int32} {Q : Mem → Prop} (M5 : Mem) (s_M5 : SC d ρ M5) (hQ : ∀ (M' : Mem), SC d ρ M' → Q M') : Q (f_Q_setPair_j1_m M5) := by
  unfold f_Q_setPair_j1_m
  (try dsimp only)
  exact hQ _ s_M5
set_option maxRecDepth 100000 in
set_option maxHeartbeats 4000000 in
theorem sq_Q_setPair {d : Int32} {ρ : Nat → Int32} {Q : Mem → Prop} (M0 : Mem) (a1 : Int32) (a2 : Int32) (s_M0 : SC d ρ M0) (hQ : ∀ (M' : Mem), SC d ρ M' → Q M') : ok_Q_setPair M0 a1 a2 ∧ Q (f_Q_setPair_m M0 a1 a2) := by
  unfold ok_Q_setPair f_Q_setPair_m
  (try dsimp only)
  by_cases hc1 : a1 = (3 : Int32)
  · skip
    refine ps_nrp hc1 ?_
    refine And.intro trivial ?_
    (try simp only [if_pos hc1])
    have s_M8 : SC d ρ (mst M0 5 7 (a2 &&& (65535 : Int32))) := SC.sa s_M0 (by decide)
    generalize e_M8 : mst M0 5 7 (a2 &&& (65535 : Int32)) = M8 at s_M8 ⊢
    exact so_Q_setPair_j1 (d := d) (ρ := ρ) M8 s_M8 hQ
  · skip
    refine ps_nrn hc1 ?_
    (try simp only [if_neg hc1])
    refine ps_and (by exact vp_and (by decide)) ?_
    refine ps_let ?_
    have s_M6 : SC d ρ (mst M0 17 ((((2 : Int32) * a1) &&& (7 : Int32))).toNatClampNeg ((a2 >>> ((8 : Int32) &&& (31 : Int32))) &&& (255 : Int32))) := SC.sa s_M0 (by decide)
    generalize e_M6 : mst M0 17 ((((2 : Int32) * a1) &&& (7 : Int32))).toNatClampNeg ((a2 >>> ((8 : Int32) &&& (31 : Int32))) &&& (255 : Int32)) = M6 at s_M6 ⊢
    refine And.intro (by exact vp_and (by decide)) ?_
    have s_M7 : SC d ρ (mst M6 17 (((((2 : Int32) * a1) + (1 : Int32)) &&& (7 : Int32))).toNatClampNeg (a2 &&& (255 : Int32))) := SC.sa s_M6 (by decide)
    generalize e_M7 : mst M6 17 (((((2 : Int32) * a1) + (1 : Int32)) &&& (7 : Int32))).toNatClampNeg (a2 &&& (255 : Int32)) = M7 at s_M7 ⊢
    exact so_Q_setPair_j1 (d := d) (ρ := ρ) M7 s_M7 hQ
theorem so_Q_setPair {d : Int32} {ρ : Nat → Int32} (M0 : Mem) (a1 : Int32) (a2 : Int32) (s_M0 : SC d ρ M0) : ok_Q_setPair M0 a1 a2 ∧ SC d ρ (f_Q_setPair_m M0 a1 a2) := sq_Q_setPair (d := d) (ρ := ρ) (Q := fun M' => SC d ρ M') M0 a1 a2 s_M0  (fun _ h0 => h0)
set_option maxRecDepth 100000 in
set_option maxHeartbeats 4000000 in
theorem sq_Q_reset {d : Int32} {ρ : Nat → Int32} {Q : Mem → Prop} (M0 : Mem) (s_M0 : SC d ρ M0) (hQ : ∀ (M' : Mem), SC d ρ M' → Q M') : ok_Q_reset M0 ∧ Q (f_Q_reset_m M0) := by
  unfold ok_Q_reset f_Q_reset_m
  (try dsimp only)
  refine ps_let ?_
  have s_M1 : SC d ρ (mst M0 17 7 (1 : Int32)) := SC.sa s_M0 (by decide)
  generalize e_M1 : mst M0 17 7 (1 : Int32) = M1 at s_M1 ⊢
  refine ps_let ?_
  have s_M2 : SC d ρ (mst M1 17 6 (176 : Int32)) := SC.sa s_M1 (by decide)
  generalize e_M2 : mst M1 17 6 (176 : Int32) = M2 at s_M2 ⊢
  have t_ := so_Q_setPair (d := d) (ρ := ρ) M2 (0 : Int32) (19 : Int32) s_M2 
  refine ps_and t_.1 ?_
  replace t_ := t_.2
  refine ps_let ?_
  generalize e_M3 : f_Q_setPair_m M2 (0 : Int32) (19 : Int32) = M3 at t_ ⊢
  have s_M3 := t_
  have t_ := so_Q_setPair (d := d) (ρ := ρ) M3 (1 : Int32) (216 : Int32) s_M3 
  refine ps_and t_.1 ?_
  replace t_ := t_.2
  refine ps_let ?_
  generalize e_M4 : f_Q_setPair_m M3 (1 : Int32) (216 : Int32) = M4 at t_ ⊢
  have s_M4 := t_
  have t_ := so_Q_setPair (d := d) (ρ := ρ) M4 (2 : Int32) (333 : Int32) s_M4 
  refine And.intro t_.1 ?_
  replace t_ := t_.2
  generalize e_M5 : f_Q_setPair_m M4 (2 : Int32) (333 : Int32) = M5 at t_ ⊢
  have s_M5 := t_
  have s_M6 : SC d ρ (mst M5 5 7 (65534 : Int32)) := SC.sa s_M5 (by decide)
  generalize e_M6 : mst M5 5 7 (65534 : Int32) = M6 at s_M6 ⊢
  have s_M7 : SC d ρ (mst M6 5 8 (256 : Int32)) := SC.sa s_M6 (by decide)
  generalize e_M7 : mst M6 5 8 (256 : Int32) = M7 at s_M7 ⊢
  have s_M8 : SC d ρ (mst M7 5 3 (0 : Int32)) := SC.sa s_M7 (by decide)
  generalize e_M8 : mst M7 5 3 (0 : Int32) = M8 at s_M8 ⊢
  have s_M9 : SC d ρ (mst M8 5 4 (0 : Int32)) := SC.sa s_M8 (by decide)
  generalize e_M9 : mst M8 5 4 (0 : Int32) = M9 at s_M9 ⊢
  have s_M10 : SC d ρ (mst M9 5 5 (0 : Int32)) := SC.sa s_M9 (by decide)
  generalize e_M10 : mst M9 5 5 (0 : Int32) = M10 at s_M10 ⊢
  have s_M11 : SC d ρ (mst M10 5 9 (0 : Int32)) := SC.sa s_M10 (by decide)
  generalize e_M11 : mst M10 5 9 (0 : Int32) = M11 at s_M11 ⊢
  have s_M12 : SC d ρ (mst M11 5 0 (0 : Int32)) := SC.sa s_M11 (by decide)
  generalize e_M12 : mst M11 5 0 (0 : Int32) = M12 at s_M12 ⊢
  have s_M13 : SC d ρ (mst M12 5 1 (0 : Int32)) := SC.sa s_M12 (by decide)
  generalize e_M13 : mst M12 5 1 (0 : Int32) = M13 at s_M13 ⊢
  have s_M14 : SC d ρ (mst M13 5 2 (0 : Int32)) := SC.sa s_M13 (by decide)
  generalize e_M14 : mst M13 5 2 (0 : Int32) = M14 at s_M14 ⊢
  exact hQ _ s_M14
theorem so_Q_reset {d : Int32} {ρ : Nat → Int32} (M0 : Mem) (s_M0 : SC d ρ M0) : ok_Q_reset M0 ∧ SC d ρ (f_Q_reset_m M0) := sq_Q_reset (d := d) (ρ := ρ) (Q := fun M' => SC d ρ M') M0 s_M0  (fun _ h0 => h0)
set_option maxRecDepth 100000 in
set_option maxHeartbeats 4000000 in
theorem sq_T_startAnew {d : Int32} {ρ : Nat → Int32} {Q : Mem → Prop} (M0 : Mem) (s_M0 : SC d ρ M0) (hQ : ∀ (M' : Mem), SC d ρ M' → Q M') : ok_T_startAnew M0 ∧ Q (f_T_startAnew_m M0) := by
  unfold ok_T_startAnew f_T_startAnew_m
  (try dsimp only)
  have t_ := so_K_reset (d := d) (ρ := ρ) M0 s_M0 
  refine ps_and t_.1 ?_
  replace t_ := t_.2
  refine ps_let ?_
  generalize e_M1 : f_K_reset_m M0 = M1 at t_ ⊢
  have s_M1 := t_
  have t_ := so_P_reset (d := d) (ρ := ρ) M1 s_M1 
  refine ps_and t_.1 ?_
  replace t_ := t_.2
  refine ps_let ?_
  generalize e_M2 : f_P_reset_m M1 = M2 at t_ ⊢
  have s_M2 := t_
  have t_ := so_Y_reset (d := d) (ρ := ρ) M2 s_M2 
  refine ps_and t_.1 ?_
  replace t_ := t_.2
  refine ps_let ?_
  generalize e_M3 : f_Y_reset_m M2 = M3 at t_ ⊢
  have s_M3 := t_
  have t_ := so_S_reset (d := d) (ρ := ρ) M3 s_M3 
  refine ps_and t_.1 ?_
  replace t_ := t_.2
  refine ps_let ?_
  generalize e_M4 : f_S_reset_m M3 = M4 at t_ ⊢
  have s_M4 := t_
  have t_ := so_Q_reset (d := d) (ρ := ρ) M4 s_M4 
  refine And.intro t_.1 ?_
  replace t_ := t_.2
  generalize e_M5 : f_Q_reset_m M4 = M5 at t_ ⊢
  have s_M5 := t_
  exact hQ _ s_M5
theorem so_T_startAnew {d : Int32} {ρ : Nat → Int32} (M0 : Mem) (s_M0 : SC d ρ M0) : ok_T_startAnew M0 ∧ SC d ρ (f_T_startAnew_m M0) := sq_T_startAnew (d := d) (ρ := ρ) (Q := fun M' => SC d ρ M') M0 s_M0  (fun _ h0 => h0)
set_option maxRecDepth 100000 in
set_option maxHeartbeats 4000000 in
theorem sq_T_octetOf {d : Int32} {ρ : Nat → Int32} {Q : Int32 → Prop} (M0 : Mem) (a1 : Int64) (a2 : Int32) (s_M0 : SC d ρ M0) (hQ : ∀ (x : Int32), Q x) : Q (f_T_octetOf_v M0 a1 a2) := by
  unfold f_T_octetOf_v
  (try dsimp only)
  exact hQ _
theorem so_T_octetOf {d : Int32} {ρ : Nat → Int32} (M0 : Mem) (a1 : Int64) (a2 : Int32) (s_M0 : SC d ρ M0) : True := sq_T_octetOf (d := d) (ρ := ρ) (Q := fun _ => True) M0 a1 a2 s_M0  (fun _ => trivial)
set_option maxRecDepth 100000 in
set_option maxHeartbeats 4000000 in
theorem so_K_headerAgrees_j1 {d : Int32} {ρ : Nat → Int32} {Q : Int32 → Prop} (x4 : Int32) (hp0 : isB x4) (hQ : ∀ (x : Int32), Q x) : ok_K_headerAgrees_j1 x4 ∧ Q (f_K_headerAgrees_j1_v x4) := by
  unfold ok_K_headerAgrees_j1 f_K_headerAgrees_j1_v
  (try dsimp only)
  refine And.intro (by assumption) ?_
  exact hQ _
set_option maxRecDepth 100000 in
set_option maxHeartbeats 4000000 in
theorem so_K_headerAgrees_l1 {d : Int32} {ρ : Nat → Int32} {Q : Int32 → Prop} (M0 : Mem) (s_M0 : SC d ρ M0) (hQ : ∀ (x : Int32), Q x) : ∀ (n : Nat) (x1 : Int32) (x2 : Int32), 308 ≤ (x2).toInt → (x2).toInt ≤ 333 → 333 < (x2).toInt + n → ok_K_headerAgrees_l1 M0 n x1 x2 ∧ Q (f_K_headerAgrees_l1_v M0 n x1 x2) := by
  intro n
  induction n with
  | zero =>
    intro x1 x2  hL0 hL1 hL2
    exact False.elim (by (try simp only [ti_le, ti_lt, Int32.reduceToInt] at *) <;> omega)
  | succ n ih =>
    intro x1 x2  hL0 hL1 hL2
    have hK1 := ih
    show (((((333 : Int32) ≤ x2) → (((¬ (x1 &&& (255 : Int32)) = (M0 6 333)) → ok_K_headerAgrees_j1 (0 : Int32)) ∧ (((x1 &&& (255 : Int32)) = (M0 6 333)) → ok_K_headerAgrees_j1 (1 : Int32)))) ∧ ((¬ (333 : Int32) ≤ x2) → vp_in x2 8192 ∧ (∀ x5 : Int32, x5 = ((x1 - (M0 6 x2.toNatClampNeg)) - (1 : Int32)) → ∀ x6 : Int32, x6 = x2 + (1 : Int32) → (ok_K_headerAgrees_l1 M0 n) x5 x6)))) ∧ Q ((if (333 : Int32) ≤ x2 then (if (x1 &&& (255 : Int32)) = (M0 6 333) then (f_K_headerAgrees_j1_v (1 : Int32)) else (f_K_headerAgrees_j1_v (0 : Int32))) else let x5 : Int32 := ((x1 - (M0 6 x2.toNatClampNeg)) - (1 : Int32)); let x6 : Int32 := x2 + (1 : Int32); ((f_K_headerAgrees_l1_v M0 n) x5 x6)))
    (try dsimp only)
    by_cases hc2 : (333 : Int32) ≤ x2
    · skip
      refine ps_brp hc2 ?_
      (try simp only [if_pos hc2])
      by_cases hc3 : (x1 &&& (255 : Int32)) = (M0 6 333)
      · skip
        refine ps_nrp hc3 ?_
        (try simp only [if_pos hc3])
        exact so_K_headerAgrees_j1 (d := d) (ρ := ρ) (1 : Int32) (by exact isB_1) hQ
      · skip
        refine ps_nrn hc3 ?_
        (try simp only [if_neg hc3])
        exact so_K_headerAgrees_j1 (d := d) (ρ := ρ) (0 : Int32) (by exact isB_0) hQ
    · skip
      refine ps_brn hc2 ?_
      (try simp only [if_neg hc2])
      refine ps_and (by first | assumption | (rw [vp_iff]; constructor <;> ((try simp only [ti_le, ti_lt, Int32.reduceToInt] at *) <;> omega))) ?_
      refine ps_let ?_
      generalize e_x5 : ((x1 - (M0 6 x2.toNatClampNeg)) - (1 : Int32)) = x5
      refine ps_let ?_
      generalize e_x6 : x2 + (1 : Int32) = x6
      have a_x6 : x6.toInt = x2.toInt + 1 := by rw [← e_x6, ti_add (by (try simp only [ti_le, ti_lt, Int32.reduceToInt] at *) <;> omega) (by (try simp only [ti_le, ti_lt, Int32.reduceToInt] at *) <;> omega)]; rfl
      exact hK1 x5 x6 (by first | assumption | ((try simp only [ti_le, ti_lt, Int32.reduceToInt] at *) <;> omega)) (by first | assumption | ((try simp only [ti_le, ti_lt, Int32.reduceToInt] at *) <;> omega)) (by first | assumption | ((try simp only [ti_le, ti_lt, Int32.reduceToInt] at *) <;> omega))
set_option maxRecDepth 100000 in
set_option maxHeartbeats 4000000 in
theorem sq_K_headerAgrees {d : Int32} {ρ : Nat → Int32} {Q : Int32 → Prop} (M0 : Mem) (s_M0 : SC d ρ M0) (hQ : ∀ (x : Int32), Q x) : ok_K_headerAgrees M0 ∧ Q (f_K_headerAgrees_v M0) := by
  unfold ok_K_headerAgrees f_K_headerAgrees_v
  (try dsimp only)
  exact so_K_headerAgrees_l1 (d := d) (ρ := ρ) M0 s_M0 hQ 26 (0 : Int32) (308 : Int32) (by first | assumption | ((try simp only [ti_le, ti_lt, Int32.reduceToInt] at *) <;> omega)) (by first | assumption | ((try simp only [ti_le, ti_lt, Int32.reduceToInt] at *) <;> omega)) (by first | assumption | ((try simp only [ti_le, ti_lt, Int32.reduceToInt] at *) <;> omega))
theorem so_K_headerAgrees {d : Int32} {ρ : Nat → Int32} (M0 : Mem) (s_M0 : SC d ρ M0) : ok_K_headerAgrees M0 ∧ True := sq_K_headerAgrees (d := d) (ρ := ρ) (Q := fun _ => True) M0 s_M0  (fun _ => trivial)
set_option maxRecDepth 100000 in
set_option maxHeartbeats 4000000 in
theorem sq_P_waiting {d : Int32} {ρ : Nat → Int32} {Q : Int32 → Prop} (M0 : Mem) (s_M0 : SC d ρ M0) (hQ : ∀ (x : Int32), Q x) : Q (f_P_waiting_v M0) := by
  unfold f_P_waiting_v
  (try dsimp only)
  exact hQ _
theorem so_P_waiting {d : Int32} {ρ : Nat → Int32} (M0 : Mem) (s_M0 : SC d ρ M0) : True := sq_P_waiting (d := d) (ρ := ρ) (Q := fun _ => True) M0 s_M0  (fun _ => trivial)
set_option maxRecDepth 100000 in
set_option maxHeartbeats 4000000 in
theorem so_K_controlOne_j1 {d : Int32} {ρ : Nat → Int32} {Q : Mem → Prop} (M12 : Mem) (s_M12 : SC d ρ M12) (hQ : ∀ (M' : Mem), SC d ρ M' → Q M') : Q (f_K_controlOne_j1_m M12) := by
  unfold f_K_controlOne_j1_m
  (try dsimp only)
  exact hQ _ s_M12
set_option maxRecDepth 100000 in
set_option maxHeartbeats 4000000 in
theorem so_K_controlOne_j2 {d : Int32} {ρ : Nat → Int32} {Q : Mem → Prop} (M0 : Mem) (x17 : Int32) (s_M0 : SC d ρ M0) (hQ : ∀ (M' : Mem), SC d ρ M' → Q M') : Q (f_K_controlOne_j2_m M0 x17) := by
  unfold f_K_controlOne_j2_m
  (try dsimp only)
  have s_M18 : SC d ρ (mst M0 1 8 x17) := SC.s1 s_M0 (by decide)
  generalize e_M18 : mst M0 1 8 x17 = M18 at s_M18 ⊢
  exact so_K_controlOne_j1 (d := d) (ρ := ρ) M18 s_M18 hQ
set_option maxRecDepth 100000 in
set_option maxHeartbeats 4000000 in
theorem so_K_controlOne_j3 {d : Int32} {ρ : Nat → Int32} {Q : Mem → Prop} (M0 : Mem) (x21 : Int32) (s_M0 : SC d ρ M0) (hp0 : isB x21) (hQ : ∀ (M' : Mem), SC d ρ M' → Q M') : ok_K_controlOne_j3 M0 x21 ∧ Q (f_K_controlOne_j3_m M0 x21) := by
  unfold ok_K_controlOne_j3 f_K_controlOne_j3_m
  (try dsimp only)
  refine And.intro (by assumption) ?_
  have s_M22 : SC d ρ (mst M0 1 7 x21) := SC.s1 s_M0 (by decide)
  generalize e_M22 : mst M0 1 7 x21 = M22 at s_M22 ⊢
  exact so_K_controlOne_j1 (d := d) (ρ := ρ) M22 s_M22 hQ
set_option maxRecDepth 100000 in
set_option maxHeartbeats 4000000 in
theorem sq_K_controlOne {d : Int32} {ρ : Nat → Int32} {Q : Mem → Prop} (M0 : Mem) (a1 : Int32) (a2 : Int32) (s_M0 : SC d ρ M0) (hQ : ∀ (M' : Mem), SC d ρ M' → Q M') : ok_K_controlOne M0 a1 a2 ∧ Q (f_K_controlOne_m M0 a1 a2) := by
  unfold ok_K_controlOne f_K_controlOne_m
  (try dsimp only)
  by_cases hc1 : (8192 : Int32) ≤ a1
  · skip
    refine ps_brp hc1 ?_
    refine And.intro trivial ?_
    (try simp only [if_pos hc1])
    by_cases hc2 : (16384 : Int32) ≤ a1
    · skip
      (try simp only [if_pos hc2])
      by_cases hc3 : (24576 : Int32) ≤ a1
      · skip
        (try simp only [if_pos hc3])
        have s_M13 : SC d ρ (mst M0 1 10 (a2 &&& (1 : Int32))) := SC.s1 s_M0 (by decide)
        generalize e_M13 : mst M0 1 10 (a2 &&& (1 : Int32)) = M13 at s_M13 ⊢
        exact so_K_controlOne_j1 (d := d) (ρ := ρ) M13 s_M13 hQ
      · skip
        (try simp only [if_neg hc3])
        have s_M14 : SC d ρ (mst M0 1 9 (a2 &&& (3 : Int32))) := SC.s19 s_M0 (and_lt (by decide))
        generalize e_M14 : mst M0 1 9 (a2 &&& (3 : Int32)) = M14 at s_M14 ⊢
        exact so_K_controlOne_j1 (d := d) (ρ := ρ) M14 s_M14 hQ
    · skip
      (try simp only [if_neg hc2])
      by_cases hc3 : (a2 &&& (31 : Int32)) = 0
      · skip
        (try simp only [if_pos hc3])
        exact so_K_controlOne_j2 (d := d) (ρ := ρ) M0 (1 : Int32) s_M0 hQ
      · skip
        (try simp only [if_neg hc3])
        exact so_K_controlOne_j2 (d := d) (ρ := ρ) M0 (a2 &&& (31 : Int32)) s_M0 hQ
  · skip
    refine ps_brn hc1 ?_
    (try simp only [if_neg hc1])
    by_cases hc2 : (a2 &&& (15 : Int32)) = (10 : Int32)
    · skip
      refine ps_nrp hc2 ?_
      (try simp only [if_pos hc2])
      exact so_K_controlOne_j3 (d := d) (ρ := ρ) M0 (1 : Int32) s_M0 (by exact isB_1) hQ
    · skip
      refine ps_nrn hc2 ?_
      (try simp only [if_neg hc2])
      exact so_K_controlOne_j3 (d := d) (ρ := ρ) M0 (0 : Int32) s_M0 (by exact isB_0) hQ
theorem so_K_controlOne {d : Int32} {ρ : Nat → Int32} (M0 : Mem) (a1 : Int32) (a2 : Int32) (s_M0 : SC d ρ M0) : ok_K_controlOne M0 a1 a2 ∧ SC d ρ (f_K_controlOne_m M0 a1 a2) := sq_K_controlOne (d := d) (ρ := ρ) (Q := fun M' => SC d ρ M') M0 a1 a2 s_M0  (fun _ h0 => h0)
set_option maxRecDepth 100000 in
set_option maxHeartbeats 4000000 in
theorem so_K_controlTwo_j1 {d : Int32} {ρ : Nat → Int32} {Q : Mem → Prop} (M10 : Mem) (s_M10 : SC d ρ M10) (hQ : ∀ (M' : Mem), SC d ρ M' → Q M') : Q (f_K_controlTwo_j1_m M10) := by
  unfold f_K_controlTwo_j1_m
  (try dsimp only)
  exact hQ _ s_M10
set_option maxRecDepth 100000 in
set_option maxHeartbeats 4000000 in
theorem so_K_controlTwo_j2 {d : Int32} {ρ : Nat → Int32} {Q : Mem → Prop} (M0 : Mem) (x13 : Int32) (s_M0 : SC d ρ M0) (hQ : ∀ (M' : Mem), SC d ρ M' → Q M') : Q (f_K_controlTwo_j2_m M0 x13) := by
  unfold f_K_controlTwo_j2_m
  (try dsimp only)
  have s_M14 : SC d ρ (mst M0 1 8 x13) := SC.s1 s_M0 (by decide)
  generalize e_M14 : mst M0 1 8 x13 = M14 at s_M14 ⊢
  exact so_K_controlTwo_j1 (d := d) (ρ := ρ) M14 s_M14 hQ
set_option maxRecDepth 100000 in
set_option maxHeartbeats 4000000 in
theorem so_K_controlTwo_j3 {d : Int32} {ρ : Nat → Int32} {Q : Mem → Prop} (M0 : Mem) (x17 : Int32) (s_M0 : SC d ρ M0) (hp0 : isB x17) (hQ : ∀ (M' : Mem), SC d ρ M' → Q M') : ok_K_controlTwo_j3 M0 x17 ∧ Q (f_K_controlTwo_j3_m M0 x17) := by
  unfold ok_K_controlTwo_j3 f_K_controlTwo_j3_m
  (try dsimp only)
  refine And.intro (by assumption) ?_
  have s_M18 : SC d ρ (mst M0 1 7 x17) := SC.s1 s_M0 (by decide)
  generalize e_M18 : mst M0 1 7 x17 = M18 at s_M18 ⊢
  exact so_K_controlTwo_j1 (d := d) (ρ := ρ) M18 s_M18 hQ
set_option maxRecDepth 100000 in
set_option maxHeartbeats 4000000 in
theorem sq_K_controlTwo {d : Int32} {ρ : Nat → Int32} {Q : Mem → Prop} (M0 : Mem) (a1 : Int32) (a2 : Int32) (s_M0 : SC d ρ M0) (hQ : ∀ (M' : Mem), SC d ρ M' → Q M') : ok_K_controlTwo M0 a1 a2 ∧ Q (f_K_controlTwo_m M0 a1 a2) := by
  unfold ok_K_controlTwo f_K_controlTwo_m
  (try dsimp only)
  by_cases hc1 : a1 < (16384 : Int32)
  · skip
    refine ps_brp hc1 ?_
    (try simp only [if_pos hc1])
    by_cases hc2 : (a1 &&& (256 : Int32)) = 0
    · skip
      refine ps_nrp hc2 ?_
      (try simp only [if_pos hc2])
      by_cases hc3 : (a2 &&& (15 : Int32)) = (10 : Int32)
      · skip
        refine ps_nrp hc3 ?_
        (try simp only [if_pos hc3])
        exact so_K_controlTwo_j3 (d := d) (ρ := ρ) M0 (1 : Int32) s_M0 (by exact isB_1) hQ
      · skip
        refine ps_nrn hc3 ?_
        (try simp only [if_neg hc3])
        exact so_K_controlTwo_j3 (d := d) (ρ := ρ) M0 (0 : Int32) s_M0 (by exact isB_0) hQ
    · skip
      refine ps_nrn hc2 ?_
      refine And.intro trivial ?_
      (try simp only [if_neg hc2])
      by_cases hc3 : (a2 &&& (15 : Int32)) = 0
      · skip
        (try simp only [if_pos hc3])
        exact so_K_controlTwo_j2 (d := d) (ρ := ρ) M0 (1 : Int32) s_M0 hQ
      · skip
        (try simp only [if_neg hc3])
        exact so_K_controlTwo_j2 (d := d) (ρ := ρ) M0 (a2 &&& (15 : Int32)) s_M0 hQ
  · skip
    refine ps_brn hc1 ?_
    refine And.intro trivial ?_
    (try simp only [if_neg hc1])
    exact hQ _ s_M0
theorem so_K_controlTwo {d : Int32} {ρ : Nat → Int32} (M0 : Mem) (a1 : Int32) (a2 : Int32) (s_M0 : SC d ρ M0) : ok_K_controlTwo M0 a1 a2 ∧ SC d ρ (f_K_controlTwo_m M0 a1 a2) := sq_K_controlTwo (d := d) (ρ := ρ) (Q := fun M' => SC d ρ M') M0 a1 a2 s_M0  (fun _ h0 => h0)
set_option maxRecDepth 100000 in
set_option maxHeartbeats 4000000 in
theorem so_K_controlThree_j1 {d : Int32} {ρ : Nat → Int32} {Q : Mem → Prop} (M9 : Mem) (s_M9 : SC d ρ M9) (hQ : ∀ (M' : Mem), SC d ρ M' → Q M') : Q (f_K_controlThree_j1_m M9) := by
  unfold f_K_controlThree_j1_m
  (try dsimp only)
  exact hQ _ s_M9
set_option maxRecDepth 100000 in
set_option maxHeartbeats 4000000 in
theorem so_K_controlThree_j2 {d : Int32} {ρ : Nat → Int32} {Q : Mem → Prop} (M0 : Mem) (x15 : Int32) (s_M0 : SC d ρ M0) (hp0 : isB x15) (hQ : ∀ (M' : Mem), SC d ρ M' → Q M') : ok_K_controlThree_j2 M0 x15 ∧ Q (f_K_controlThree_j2_m M0 x15) := by
  unfold ok_K_controlThree_j2 f_K_controlThree_j2_m
  (try dsimp only)
  refine And.intro (by assumption) ?_
  have s_M16 : SC d ρ (mst M0 1 7 x15) := SC.s1 s_M0 (by decide)
  generalize e_M16 : mst M0 1 7 x15 = M16 at s_M16 ⊢
  exact so_K_controlThree_j1 (d := d) (ρ := ρ) M16 s_M16 hQ
set_option maxRecDepth 100000 in
set_option maxHeartbeats 4000000 in
theorem sq_K_controlThree {d : Int32} {ρ : Nat → Int32} {Q : Mem → Prop} (M0 : Mem) (a1 : Int32) (a2 : Int32) (s_M0 : SC d ρ M0) (hQ : ∀ (M' : Mem), SC d ρ M' → Q M') : ok_K_controlThree M0 a1 a2 ∧ Q (f_K_controlThree_m M0 a1 a2) := by
  unfold ok_K_controlThree f_K_controlThree_m
  (try dsimp only)
  by_cases hc1 : (8192 : Int32) ≤ a1
  · skip
    refine ps_brp hc1 ?_
    refine And.intro trivial ?_
    (try simp only [if_pos hc1])
    by_cases hc2 : (12288 : Int32) ≤ a1
    · skip
      (try simp only [if_pos hc2])
      by_cases hc3 : (16384 : Int32) ≤ a1
      · skip
        (try simp only [if_pos hc3])
        by_cases hc4 : (24576 : Int32) ≤ a1
        · skip
          (try simp only [if_pos hc4])
          exact so_K_controlThree_j1 (d := d) (ρ := ρ) M0 s_M0 hQ
        · skip
          (try simp only [if_neg hc4])
          have s_M10 : SC d ρ (mst M0 1 9 (a2 &&& (3 : Int32))) := SC.s19 s_M0 (and_lt (by decide))
          generalize e_M10 : mst M0 1 9 (a2 &&& (3 : Int32)) = M10 at s_M10 ⊢
          exact so_K_controlThree_j1 (d := d) (ρ := ρ) M10 s_M10 hQ
      · skip
        (try simp only [if_neg hc3])
        have s_M11 : SC d ρ (mst M0 1 8 (((M0 1 8) &&& (255 : Int32)) ||| ((a2 &&& (1 : Int32)) <<< ((8 : Int32) &&& (31 : Int32))))) := SC.s1 s_M0 (by decide)
        generalize e_M11 : mst M0 1 8 (((M0 1 8) &&& (255 : Int32)) ||| ((a2 &&& (1 : Int32)) <<< ((8 : Int32) &&& (31 : Int32)))) = M11 at s_M11 ⊢
        exact so_K_controlThree_j1 (d := d) (ρ := ρ) M11 s_M11 hQ
    · skip
      (try simp only [if_neg hc2])
      have s_M12 : SC d ρ (mst M0 1 8 (((M0 1 8) &&& (256 : Int32)) ||| a2)) := SC.s1 s_M0 (by decide)
      generalize e_M12 : mst M0 1 8 (((M0 1 8) &&& (256 : Int32)) ||| a2) = M12 at s_M12 ⊢
      exact so_K_controlThree_j1 (d := d) (ρ := ρ) M12 s_M12 hQ
  · skip
    refine ps_brn hc1 ?_
    (try simp only [if_neg hc1])
    by_cases hc2 : (a2 &&& (15 : Int32)) = (10 : Int32)
    · skip
      refine ps_nrp hc2 ?_
      (try simp only [if_pos hc2])
      exact so_K_controlThree_j2 (d := d) (ρ := ρ) M0 (1 : Int32) s_M0 (by exact isB_1) hQ
    · skip
      refine ps_nrn hc2 ?_
      (try simp only [if_neg hc2])
      exact so_K_controlThree_j2 (d := d) (ρ := ρ) M0 (0 : Int32) s_M0 (by exact isB_0) hQ
theorem so_K_controlThree {d : Int32} {ρ : Nat → Int32} (M0 : Mem) (a1 : Int32) (a2 : Int32) (s_M0 : SC d ρ M0) : ok_K_controlThree M0 a1 a2 ∧ SC d ρ (f_K_controlThree_m M0 a1 a2) := sq_K_controlThree (d := d) (ρ := ρ) (Q := fun M' => SC d ρ M') M0 a1 a2 s_M0  (fun _ h0 => h0)
set_option maxRecDepth 100000 in
set_option maxHeartbeats 4000000 in
theorem so_K_control_j1 {d : Int32} {ρ : Nat → Int32} {Q : Mem → Prop} (M6 : Mem) (s_M6 : SC d ρ M6) (hQ : ∀ (M' : Mem), SC d ρ M' → Q M') : ok_K_control_j1 M6 ∧ Q (f_K_control_j1_m M6) := by
  unfold ok_K_control_j1 f_K_control_j1_m
  (try dsimp only)
  have t_ := so_K_settle (d := d) (ρ := ρ) M6 s_M6 
  refine And.intro t_.1 ?_
  replace t_ := t_.2
  generalize e_M7 : f_K_settle_m M6 = M7 at t_ ⊢
  have s_M7 := t_
  exact hQ _ s_M7
set_option maxRecDepth 100000 in
set_option maxHeartbeats 4000000 in
theorem sq_K_control {d : Int32} {ρ : Nat → Int32} {Q : Mem → Prop} (M0 : Mem) (a1 : Int32) (a2 : Int32) (s_M0 : SC d ρ M0) (hQ : ∀ (M' : Mem), SC d ρ M' → Q M') : ok_K_control M0 a1 a2 ∧ Q (f_K_control_m M0 a1 a2) := by
  unfold ok_K_control f_K_control_m
  (try dsimp only)
  by_cases hc1 : (M0 1 2) = 0
  · skip
    refine ps_nrp hc1 ?_
    refine And.intro trivial ?_
    (try simp only [if_pos hc1])
    exact hQ _ s_M0
  · skip
    refine ps_nrn hc1 ?_
    (try simp only [if_neg hc1])
    by_cases hc2 : ((M0 1 3) = (1 : Int32))
    · skip
      refine ps_brp hc2 ?_
      (try simp only [if_pos hc2])
      have t_ := so_K_controlOne (d := d) (ρ := ρ) M0 a1 a2 s_M0 
      refine ps_and t_.1 ?_
      replace t_ := t_.2
      refine ps_let ?_
      generalize e_M8 : f_K_controlOne_m M0 a1 a2 = M8 at t_ ⊢
      have s_M8 := t_
      exact so_K_control_j1 (d := d) (ρ := ρ) M8 s_M8 hQ
    · skip
      refine ps_brn hc2 ?_
      (try simp only [if_neg hc2])
      by_cases hc3 : ((M0 1 3) = (2 : Int32))
      · skip
        refine ps_brp hc3 ?_
        (try simp only [if_pos hc3])
        have t_ := so_K_controlTwo (d := d) (ρ := ρ) M0 a1 a2 s_M0 
        refine ps_and t_.1 ?_
        replace t_ := t_.2
        refine ps_let ?_
        generalize e_M9 : f_K_controlTwo_m M0 a1 a2 = M9 at t_ ⊢
        have s_M9 := t_
        exact so_K_control_j1 (d := d) (ρ := ρ) M9 s_M9 hQ
      · skip
        refine ps_brn hc3 ?_
        (try simp only [if_neg hc3])
        by_cases hc4 : ((M0 1 3) = (3 : Int32))
        · skip
          refine ps_brp hc4 ?_
          (try simp only [if_pos hc4])
          have t_ := so_K_controlThree (d := d) (ρ := ρ) M0 a1 a2 s_M0 
          refine ps_and t_.1 ?_
          replace t_ := t_.2
          refine ps_let ?_
          generalize e_M10 : f_K_controlThree_m M0 a1 a2 = M10 at t_ ⊢
          have s_M10 := t_
          exact so_K_control_j1 (d := d) (ρ := ρ) M10 s_M10 hQ
        · skip
          refine ps_brn hc4 ?_
          (try simp only [if_neg hc4])
          exact so_K_control_j1 (d := d) (ρ := ρ) M0 s_M0 hQ
theorem so_K_control {d : Int32} {ρ : Nat → Int32} (M0 : Mem) (a1 : Int32) (a2 : Int32) (s_M0 : SC d ρ M0) : ok_K_control M0 a1 a2 ∧ SC d ρ (f_K_control_m M0 a1 a2) := sq_K_control (d := d) (ρ := ρ) (Q := fun M' => SC d ρ M') M0 a1 a2 s_M0  (fun _ h0 => h0)
set_option maxRecDepth 100000 in
set_option maxHeartbeats 4000000 in
theorem so_K_storeRam_j1 {d : Int32} {ρ : Nat → Int32} {Q : Mem → Prop} (M6 : Mem) (s_M6 : SC d ρ M6) (hQ : ∀ (M' : Mem), SC d ρ M' → Q M') : Q (f_K_storeRam_j1_m M6) := by
  unfold f_K_storeRam_j1_m
  (try dsimp only)
  exact hQ _ s_M6
set_option maxRecDepth 100000 in
set_option maxHeartbeats 4000000 in
theorem so_K_storeRam_j2 {d : Int32} {ρ : Nat → Int32} {Q : Mem → Prop} (M0 : Mem) (a1 : Int32) (x9 : Int32) (s_M0 : SC d ρ M0) (hQ : ∀ (M' : Mem), SC d ρ M' → Q M') : ok_K_storeRam_j2 M0 a1 x9 ∧ Q (f_K_storeRam_j2_m M0 a1 x9) := by
  unfold ok_K_storeRam_j2 f_K_storeRam_j2_m
  (try dsimp only)
  refine And.intro (by exact ram_in s_M0.2.1) ?_
  have s_M10 : SC d ρ (mst M0 7 ((((M0 1 6) * (256 : Int32)) + (a1 &&& (255 : Int32)))).toNatClampNeg x9) := SC.sa s_M0 (by decide)
  generalize e_M10 : mst M0 7 ((((M0 1 6) * (256 : Int32)) + (a1 &&& (255 : Int32)))).toNatClampNeg x9 = M10 at s_M10 ⊢
  exact so_K_storeRam_j1 (d := d) (ρ := ρ) M10 s_M10 hQ
set_option maxRecDepth 100000 in
set_option maxHeartbeats 4000000 in
theorem sq_K_storeRam {d : Int32} {ρ : Nat → Int32} {Q : Mem → Prop} (M0 : Mem) (a1 : Int32) (a2 : Int32) (s_M0 : SC d ρ M0) (hQ : ∀ (M' : Mem), SC d ρ M' → Q M') : ok_K_storeRam M0 a1 a2 ∧ Q (f_K_storeRam_m M0 a1 a2) := by
  unfold ok_K_storeRam f_K_storeRam_m
  (try dsimp only)
  by_cases hc1 : (M0 1 4) = 0
  · skip
    refine ps_brp hc1 ?_
    refine And.intro trivial ?_
    (try simp only [if_pos hc1])
    exact so_K_storeRam_j1 (d := d) (ρ := ρ) M0 s_M0 hQ
  · skip
    refine ps_brn hc1 ?_
    (try simp only [if_neg hc1])
    by_cases hc2 : (M0 1 3) = (2 : Int32)
    · skip
      refine ps_nrp hc2 ?_
      (try simp only [if_pos hc2])
      exact so_K_storeRam_j2 (d := d) (ρ := ρ) M0 a1 (a2 &&& (15 : Int32)) s_M0 hQ
    · skip
      refine ps_nrn hc2 ?_
      (try simp only [if_neg hc2])
      exact so_K_storeRam_j2 (d := d) (ρ := ρ) M0 a1 a2 s_M0 hQ
theorem so_K_storeRam {d : Int32} {ρ : Nat → Int32} (M0 : Mem) (a1 : Int32) (a2 : Int32) (s_M0 : SC d ρ M0) : ok_K_storeRam M0 a1 a2 ∧ SC d ρ (f_K_storeRam_m M0 a1 a2) := sq_K_storeRam (d := d) (ρ := ρ) (Q := fun M' => SC d ρ M') M0 a1 a2 s_M0  (fun _ h0 => h0)
set_option maxRecDepth 100000 in
set_option maxHeartbeats 4000000 in
theorem sq_P_clearDivider {d : Int32} {ρ : Nat → Int32} {Q : Mem → Prop} (M0 : Mem) (s_M0 : SC d ρ M0) (hQ : ∀ (M' : Mem), SC d ρ M' → Q M') : Q (f_P_clearDivider_m M0) := by
  unfold f_P_clearDivider_m
  (try dsimp only)
  have s_M1 : SC d ρ (mst M0 2 3 (0 : Int32)) := SC.s2 s_M0 (by decide)
  generalize e_M1 : mst M0 2 3 (0 : Int32) = M1 at s_M1 ⊢
  exact hQ _ s_M1
theorem so_P_clearDivider {d : Int32} {ρ : Nat → Int32} (M0 : Mem) (s_M0 : SC d ρ M0) : SC d ρ (f_P_clearDivider_m M0) := sq_P_clearDivider (d := d) (ρ := ρ) (Q := fun M' => SC d ρ M') M0 s_M0  (fun _ h0 => h0)
set_option maxRecDepth 100000 in
set_option maxHeartbeats 4000000 in
theorem so_P_store_j1 {d : Int32} {ρ : Nat → Int32} {Q : Mem → Prop} (M10 : Mem) (s_M10 : SC d ρ M10) (hQ : ∀ (M' : Mem), SC d ρ M' → Q M') : Q (f_P_store_j1_m M10) := by
  unfold f_P_store_j1_m
  (try dsimp only)
  exact hQ _ s_M10
set_option maxRecDepth 100000 in
set_option maxHeartbeats 4000000 in
theorem sq_P_store {d : Int32} {ρ : Nat → Int32} {Q : Mem → Prop} (M0 : Mem) (a1 : Int32) (a2 : Int32) (s_M0 : SC d ρ M0) (hQ : ∀ (M' : Mem), SC d ρ M' → Q M') : ok_P_store M0 a1 a2 ∧ Q (f_P_store_m M0 a1 a2) := by
  unfold ok_P_store f_P_store_m
  (try dsimp only)
  by_cases hc1 : (a1 = (0 : Int32))
  · skip
    refine ps_brp hc1 ?_
    refine And.intro trivial ?_
    (try simp only [if_pos hc1])
    have s_M11 : SC d ρ (mst M0 8 0 (a2 &&& (48 : Int32))) := SC.sa s_M0 (by decide)
    generalize e_M11 : mst M0 8 0 (a2 &&& (48 : Int32)) = M11 at s_M11 ⊢
    exact so_P_store_j1 (d := d) (ρ := ρ) M11 s_M11 hQ
  · skip
    refine ps_brn hc1 ?_
    (try simp only [if_neg hc1])
    by_cases hc2 : (a1 = (4 : Int32))
    · skip
      refine ps_brp hc2 ?_
      refine And.intro trivial ?_
      (try simp only [if_pos hc2])
      have t_ := so_P_clearDivider (d := d) (ρ := ρ) M0 s_M0 
      generalize e_M12 : f_P_clearDivider_m M0 = M12 at t_ ⊢
      have s_M12 := t_
      exact so_P_store_j1 (d := d) (ρ := ρ) M12 s_M12 hQ
    · skip
      refine ps_brn hc2 ?_
      (try simp only [if_neg hc2])
      by_cases hc3 : (a1 = (7 : Int32))
      · skip
        refine ps_brp hc3 ?_
        refine And.intro trivial ?_
        (try simp only [if_pos hc3])
        have s_M13 : SC d ρ (mst M0 8 7 (a2 &&& (7 : Int32))) := SC.sa s_M0 (by decide)
        generalize e_M13 : mst M0 8 7 (a2 &&& (7 : Int32)) = M13 at s_M13 ⊢
        exact so_P_store_j1 (d := d) (ρ := ρ) M13 s_M13 hQ
      · skip
        refine ps_brn hc3 ?_
        (try simp only [if_neg hc3])
        by_cases hc4 : (a1 = (15 : Int32))
        · skip
          refine ps_brp hc4 ?_
          refine And.intro trivial ?_
          (try simp only [if_pos hc4])
          have s_M14 : SC d ρ (mst M0 8 15 (a2 &&& (31 : Int32))) := SC.sa s_M0 (by decide)
          generalize e_M14 : mst M0 8 15 (a2 &&& (31 : Int32)) = M14 at s_M14 ⊢
          exact so_P_store_j1 (d := d) (ρ := ρ) M14 s_M14 hQ
        · skip
          refine ps_brn hc4 ?_
          (try simp only [if_neg hc4])
          by_cases hc5 : (a1 = (64 : Int32))
          · skip
            refine ps_brp hc5 ?_
            refine And.intro trivial ?_
            (try simp only [if_pos hc5])
            have s_M15 : SC d ρ (mst M0 8 64 a2) := SC.sa s_M0 (by decide)
            generalize e_M15 : mst M0 8 64 a2 = M15 at s_M15 ⊢
            have t_ := so_P_findState (d := d) (ρ := ρ) M15 s_M15 
            generalize e_M16 : f_P_findState_m M15 = M16 at t_ ⊢
            have s_M16 := t_
            exact so_P_store_j1 (d := d) (ρ := ρ) M16 s_M16 hQ
          · skip
            refine ps_brn hc5 ?_
            (try simp only [if_neg hc5])
            by_cases hc6 : (a1 = (65 : Int32))
            · skip
              refine ps_brp hc6 ?_
              refine And.intro trivial ?_
              (try simp only [if_pos hc6])
              have s_M17 : SC d ρ (mst M0 8 65 (a2 &&& (120 : Int32))) := SC.sa s_M0 (by decide)
              generalize e_M17 : mst M0 8 65 (a2 &&& (120 : Int32)) = M17 at s_M17 ⊢
              exact so_P_store_j1 (d := d) (ρ := ρ) M17 s_M17 hQ
            · skip
              refine ps_brn hc6 ?_
              (try simp only [if_neg hc6])
              refine And.intro (by exact vp_and (by decide)) ?_
              have s_M18 : SC d ρ (mst M0 8 ((a1 &&& (255 : Int32))).toNatClampNeg a2) := SC.sa s_M0 (by decide)
              generalize e_M18 : mst M0 8 ((a1 &&& (255 : Int32))).toNatClampNeg a2 = M18 at s_M18 ⊢
              exact so_P_store_j1 (d := d) (ρ := ρ) M18 s_M18 hQ
theorem so_P_store {d : Int32} {ρ : Nat → Int32} (M0 : Mem) (a1 : Int32) (a2 : Int32) (s_M0 : SC d ρ M0) : ok_P_store M0 a1 a2 ∧ SC d ρ (f_P_store_m M0 a1 a2) := sq_P_store (d := d) (ρ := ρ) (Q := fun M' => SC d ρ M') M0 a1 a2 s_M0  (fun _ h0 => h0)
set_option maxRecDepth 100000 in
set_option maxHeartbeats 4000000 in
theorem so_K_loadRom_j1 {d : Int32} {ρ : Nat → Int32} {Q : Int32 → Prop} (M0 : Mem) (a1 : Int32) (x2 : Int32) (s_M0 : SC d ρ M0) (hp0 : 0 ≤ (x2).toInt ∧ (x2).toInt < 8) (hQ : ∀ (x : Int32), Q x) : ok_K_loadRom_j1 M0 a1 x2 ∧ Q (f_K_loadRom_j1_v M0 a1 x2) := by
  unfold ok_K_loadRom_j1 f_K_loadRom_j1_v
  (try dsimp only)
  refine And.intro (by exact bank_in (by assumption)) ?_
  exact hQ _
set_option maxRecDepth 100000 in
set_option maxHeartbeats 4000000 in
theorem sq_K_loadRom {d : Int32} {ρ : Nat → Int32} {Q : Int32 → Prop} (M0 : Mem) (a1 : Int32) (s_M0 : SC d ρ M0) (hQ : ∀ (x : Int32), Q x) : ok_K_loadRom M0 a1 ∧ Q (f_K_loadRom_v M0 a1) := by
  unfold ok_K_loadRom f_K_loadRom_v
  (try dsimp only)
  by_cases hc1 : (16384 : Int32) ≤ a1
  · skip
    refine ps_brp hc1 ?_
    (try simp only [if_pos hc1])
    exact so_K_loadRom_j1 (d := d) (ρ := ρ) M0 a1 (M0 1 5) s_M0 (by exact s_M0.1) hQ
  · skip
    refine ps_brn hc1 ?_
    (try simp only [if_neg hc1])
    exact so_K_loadRom_j1 (d := d) (ρ := ρ) M0 a1 (0 : Int32) s_M0 (by first | assumption | decide) hQ
theorem so_K_loadRom {d : Int32} {ρ : Nat → Int32} (M0 : Mem) (a1 : Int32) (s_M0 : SC d ρ M0) : ok_K_loadRom M0 a1 ∧ True := sq_K_loadRom (d := d) (ρ := ρ) (Q := fun _ => True) M0 a1 s_M0  (fun _ => trivial)
set_option maxRecDepth 100000 in
set_option maxHeartbeats 4000000 in
theorem so_K_loadRam_j1 {d : Int32} {ρ : Nat → Int32} {Q : Int32 → Prop} (x3 : Int32) (hQ : ∀ (x : Int32), Q x) : Q (f_K_loadRam_j1_v x3) := by
  unfold f_K_loadRam_j1_v
  (try dsimp only)
  exact hQ _
set_option maxRecDepth 100000 in
set_option maxHeartbeats 4000000 in
theorem sq_K_loadRam {d : Int32} {ρ : Nat → Int32} {Q : Int32 → Prop} (M0 : Mem) (a1 : Int32) (s_M0 : SC d ρ M0) (hQ : ∀ (x : Int32), Q x) : ok_K_loadRam M0 a1 ∧ Q (f_K_loadRam_v M0 a1) := by
  unfold ok_K_loadRam f_K_loadRam_v
  (try dsimp only)
  by_cases hc1 : (M0 1 4) = 0
  · skip
    refine ps_nrp hc1 ?_
    refine And.intro trivial ?_
    (try simp only [if_pos hc1])
    exact hQ _
  · skip
    refine ps_nrn hc1 ?_
    (try simp only [if_neg hc1])
    refine And.intro (by exact ram_in s_M0.2.1) ?_
    generalize e_x1 : (M0 7 ((((M0 1 6) * (256 : Int32)) + (a1 &&& (255 : Int32)))).toNatClampNeg) = x1
    by_cases hc2 : (M0 1 3) = (2 : Int32)
    · skip
      (try simp only [if_pos hc2])
      exact so_K_loadRam_j1 (d := d) (ρ := ρ) (x1 ||| (240 : Int32)) hQ
    · skip
      (try simp only [if_neg hc2])
      exact so_K_loadRam_j1 (d := d) (ρ := ρ) x1 hQ
theorem so_K_loadRam {d : Int32} {ρ : Nat → Int32} (M0 : Mem) (a1 : Int32) (s_M0 : SC d ρ M0) : ok_K_loadRam M0 a1 ∧ True := sq_K_loadRam (d := d) (ρ := ρ) (Q := fun _ => True) M0 a1 s_M0  (fun _ => trivial)
set_option maxRecDepth 100000 in
set_option maxHeartbeats 4000000 in
theorem so_P_load_j2 {d : Int32} {ρ : Nat → Int32} {Q : Int32 → Prop} (x1 : Int32) (x7 : Int32) (x10 : Int32) (hQ : ∀ (x : Int32), Q x) : Q (f_P_load_j2_v x1 x7 x10) := by
  unfold f_P_load_j2_v
  (try dsimp only)
  generalize e_x11 : (x7 ||| x10) = x11
  exact hQ _
set_option maxRecDepth 100000 in
set_option maxHeartbeats 4000000 in
theorem so_P_load_j1 {d : Int32} {ρ : Nat → Int32} {Q : Int32 → Prop} (M0 : Mem) (x1 : Int32) (x7 : Int32) (s_M0 : SC d ρ M0) (hQ : ∀ (x : Int32), Q x) : Q (f_P_load_j1_v M0 x1 x7) := by
  unfold f_P_load_j1_v
  (try dsimp only)
  by_cases hc1 : (x1 &&& (32 : Int32)) = 0
  · skip
    (try simp only [if_pos hc1])
    exact so_P_load_j2 (d := d) (ρ := ρ) x1 x7 ((M0 2 2) >>> ((4 : Int32) &&& (31 : Int32))) hQ
  · skip
    (try simp only [if_neg hc1])
    exact so_P_load_j2 (d := d) (ρ := ρ) x1 x7 (0 : Int32) hQ
set_option maxRecDepth 100000 in
set_option maxHeartbeats 4000000 in
theorem so_P_load_j3 {d : Int32} {ρ : Nat → Int32} {Q : Int32 → Prop} (M0 : Mem) (x13 : Int32) (s_M0 : SC d ρ M0) (hQ : ∀ (x : Int32), Q x) : Q (f_P_load_j3_v M0 x13) := by
  unfold f_P_load_j3_v
  (try dsimp only)
  exact hQ _
set_option maxRecDepth 100000 in
set_option maxHeartbeats 4000000 in
theorem sq_P_load {d : Int32} {ρ : Nat → Int32} {Q : Int32 → Prop} (M0 : Mem) (a1 : Int32) (s_M0 : SC d ρ M0) (hQ : ∀ (x : Int32), Q x) : ok_P_load M0 a1 ∧ Q (f_P_load_v M0 a1) := by
  unfold ok_P_load f_P_load_v
  (try dsimp only)
  by_cases hc1 : (a1 = (0 : Int32))
  · skip
    refine ps_brp hc1 ?_
    refine And.intro trivial ?_
    (try simp only [if_pos hc1])
    generalize e_x1 : (M0 8 0) = x1
    by_cases hc2 : (x1 &&& (16 : Int32)) = 0
    · skip
      (try simp only [if_pos hc2])
      exact so_P_load_j1 (d := d) (ρ := ρ) M0 x1 ((M0 2 2) &&& (15 : Int32)) s_M0 hQ
    · skip
      (try simp only [if_neg hc2])
      exact so_P_load_j1 (d := d) (ρ := ρ) M0 x1 (0 : Int32) s_M0 hQ
  · skip
    refine ps_brn hc1 ?_
    (try simp only [if_neg hc1])
    by_cases hc2 : (a1 = (4 : Int32))
    · skip
      refine ps_brp hc2 ?_
      refine And.intro trivial ?_
      (try simp only [if_pos hc2])
      exact hQ _
    · skip
      refine ps_brn hc2 ?_
      (try simp only [if_neg hc2])
      by_cases hc3 : (a1 = (5 : Int32) ∨ a1 = (6 : Int32) ∨ a1 = (64 : Int32) ∨ a1 = (66 : Int32) ∨ a1 = (67 : Int32) ∨ a1 = (69 : Int32) ∨ a1 = (70 : Int32) ∨ a1 = (71 : Int32) ∨ a1 = (72 : Int32) ∨ a1 = (73 : Int32) ∨ a1 = (74 : Int32) ∨ a1 = (75 : Int32) ∨ a1 = (255 : Int32))
      · skip
        refine ps_brp hc3 ?_
        (try simp only [if_pos hc3])
        refine And.intro (by exact vp_and (by decide)) ?_
        exact hQ _
      · skip
        refine ps_brn hc3 ?_
        refine And.intro trivial ?_
        (try simp only [if_neg hc3])
        by_cases hc4 : (a1 = (7 : Int32))
        · skip
          (try simp only [if_pos hc4])
          exact hQ _
        · skip
          (try simp only [if_neg hc4])
          by_cases hc5 : (a1 = (15 : Int32))
          · skip
            (try simp only [if_pos hc5])
            exact hQ _
          · skip
            (try simp only [if_neg hc5])
            by_cases hc6 : (a1 = (65 : Int32))
            · skip
              (try simp only [if_pos hc6])
              by_cases hc7 : (M0 2 5) = (M0 8 69)
              · skip
                (try simp only [if_pos hc7])
                exact so_P_load_j3 (d := d) (ρ := ρ) M0 (4 : Int32) s_M0 hQ
              · skip
                (try simp only [if_neg hc7])
                exact so_P_load_j3 (d := d) (ρ := ρ) M0 (0 : Int32) s_M0 hQ
            · skip
              (try simp only [if_neg hc6])
              by_cases hc7 : (a1 = (68 : Int32))
              · skip
                (try simp only [if_pos hc7])
                exact hQ _
              · skip
                (try simp only [if_neg hc7])
                exact hQ _
theorem so_P_load {d : Int32} {ρ : Nat → Int32} (M0 : Mem) (a1 : Int32) (s_M0 : SC d ρ M0) : ok_P_load M0 a1 ∧ True := sq_P_load (d := d) (ρ := ρ) (Q := fun _ => True) M0 a1 s_M0  (fun _ => trivial)
set_option maxRecDepth 100000 in
set_option maxHeartbeats 4000000 in
theorem so_Y_load_j1 {d : Int32} {ρ : Nat → Int32} {Q : Int32 → Prop} (M0 : Mem) (a1 : Int32) (s_M0 : SC d ρ M0) (hQ : ∀ (x : Int32), Q x) : ok_Y_load_j1 M0 a1 ∧ Q (f_Y_load_j1_v M0 a1) := by
  unfold ok_Y_load_j1 f_Y_load_j1_v
  (try dsimp only)
  have t_ := so_P_load (d := d) (ρ := ρ) M0 (a1 &&& (255 : Int32)) s_M0 
  refine And.intro t_.1 ?_
  replace t_ := t_.2
  generalize e_x2 : f_P_load_v M0 (a1 &&& (255 : Int32)) = x2 at t_ ⊢
  exact hQ _
set_option maxRecDepth 100000 in
set_option maxHeartbeats 4000000 in
theorem sq_Y_load {d : Int32} {ρ : Nat → Int32} {Q : Int32 → Prop} (M0 : Mem) (a1 : Int32) (s_M0 : SC d ρ M0) (hQ : ∀ (x : Int32), Q x) : ok_Y_load M0 a1 ∧ Q (f_Y_load_v M0 a1) := by
  unfold ok_Y_load f_Y_load_v
  (try dsimp only)
  by_cases hc1 : (32768 : Int32) ≤ a1
  · skip
    refine ps_brp hc1 ?_
    (try simp only [if_pos hc1])
    by_cases hc2 : (40960 : Int32) ≤ a1
    · skip
      refine ps_brp hc2 ?_
      (try simp only [if_pos hc2])
      by_cases hc3 : (49152 : Int32) ≤ a1
      · skip
        refine ps_brp hc3 ?_
        (try simp only [if_pos hc3])
        by_cases hc4 : (65024 : Int32) ≤ a1
        · skip
          refine ps_brp hc4 ?_
          (try simp only [if_pos hc4])
          by_cases hc5 : (65184 : Int32) ≤ a1
          · skip
            refine ps_brp hc5 ?_
            (try simp only [if_pos hc5])
            by_cases hc6 : (65280 : Int32) ≤ a1
            · skip
              refine ps_brp hc6 ?_
              (try simp only [if_pos hc6])
              by_cases hc7 : a1 < (65408 : Int32)
              · skip
                refine ps_brp hc7 ?_
                (try simp only [if_pos hc7])
                exact so_Y_load_j1 (d := d) (ρ := ρ) M0 a1 s_M0 hQ
              · skip
                refine ps_brn hc7 ?_
                (try simp only [if_neg hc7])
                by_cases hc8 : a1 = (65535 : Int32)
                · skip
                  refine ps_nrp hc8 ?_
                  (try simp only [if_pos hc8])
                  exact so_Y_load_j1 (d := d) (ρ := ρ) M0 a1 s_M0 hQ
                · skip
                  refine ps_nrn hc8 ?_
                  (try simp only [if_neg hc8])
                  refine And.intro (by exact vp_and (by decide)) ?_
                  exact hQ _
            · skip
              refine ps_brn hc6 ?_
              refine And.intro trivial ?_
              (try simp only [if_neg hc6])
              exact hQ _
          · skip
            refine ps_brn hc5 ?_
            (try simp only [if_neg hc5])
            refine And.intro (by rw [vp_iff, ti_sub (by (try simp only [ti_le, ti_lt, Int32.reduceToInt] at *) <;> omega) (by (try simp only [ti_le, ti_lt, Int32.reduceToInt] at *) <;> omega)]; constructor <;> ((try simp only [ti_le, ti_lt, Int32.reduceToInt] at *) <;> omega)) ?_
            exact hQ _
        · skip
          refine ps_brn hc4 ?_
          (try simp only [if_neg hc4])
          refine And.intro (by exact vp_and (by decide)) ?_
          exact hQ _
      · skip
        refine ps_brn hc3 ?_
        (try simp only [if_neg hc3])
        have t_ := so_K_loadRam (d := d) (ρ := ρ) M0 a1 s_M0 
        refine And.intro t_.1 ?_
        replace t_ := t_.2
        generalize e_x3 : f_K_loadRam_v M0 a1 = x3 at t_ ⊢
        exact hQ _
    · skip
      refine ps_brn hc2 ?_
      (try simp only [if_neg hc2])
      refine And.intro (by exact vp_and (by decide)) ?_
      exact hQ _
  · skip
    refine ps_brn hc1 ?_
    (try simp only [if_neg hc1])
    have t_ := so_K_loadRom (d := d) (ρ := ρ) M0 a1 s_M0 
    refine And.intro t_.1 ?_
    replace t_ := t_.2
    generalize e_x4 : f_K_loadRom_v M0 a1 = x4 at t_ ⊢
    exact hQ _
theorem so_Y_load {d : Int32} {ρ : Nat → Int32} (M0 : Mem) (a1 : Int32) (s_M0 : SC d ρ M0) : ok_Y_load M0 a1 ∧ True := sq_Y_load (d := d) (ρ := ρ) (Q := fun _ => True) M0 a1 s_M0  (fun _ => trivial)
set_option maxRecDepth 100000 in
set_option maxHeartbeats 4000000 in
theorem so_Y_store_j1 {d : Int32} {ρ : Nat → Int32} {Q : Mem → Prop} (M21 : Mem) (s_M21 : SC d ρ M21) (hQ : ∀ (M' : Mem), SC d ρ M' → Q M') : Q (f_Y_store_j1_m M21) := by
  unfold f_Y_store_j1_m
  (try dsimp only)
  exact hQ _ s_M21
set_option maxRecDepth 100000 in
set_option maxHeartbeats 4000000 in
theorem so_Y_store_l1 {d : Int32} {ρ : Nat → Int32} {Q : Mem → Prop} (a2 : Int32) (hQ : ∀ (M' : Mem), SC d ρ M' → Q M') : ∀ (n : Nat) (x30 : Int32) (M31 : Mem), SC d ρ M31 → 0 ≤ (x30).toInt → (x30).toInt ≤ 160 → 160 < (x30).toInt + n → ok_Y_store_l1 a2 n x30 M31 ∧ Q (f_Y_store_l1_m a2 n x30 M31) := by
  intro n
  induction n with
  | zero =>
    intro x30 M31 s_M31 hL0 hL1 hL2
    exact False.elim (by (try simp only [ti_le, ti_lt, Int32.reduceToInt] at *) <;> omega)
  | succ n ih =>
    intro x30 M31 s_M31 hL0 hL1 hL2
    have hK1 := ih
    show (((((160 : Int32) ≤ x30) → True) ∧ ((¬ (160 : Int32) ≤ x30) → ok_Y_load M31 ((a2 * (256 : Int32)) + x30) ∧ (∀ x32 : Int32, x32 = f_Y_load_v M31 ((a2 * (256 : Int32)) + x30) → vp_in x30 160 ∧ (∀ M33 : Mem, M33 = mst M31 10 x30.toNatClampNeg x32 → ∀ x34 : Int32, x34 = x30 + (1 : Int32) → (ok_Y_store_l1 a2 n) x34 M33))))) ∧ Q ((if (160 : Int32) ≤ x30 then (f_Y_store_j1_m M31) else let x32 : Int32 := f_Y_load_v M31 ((a2 * (256 : Int32)) + x30); let M33 : Mem := mst M31 10 x30.toNatClampNeg x32; let x34 : Int32 := x30 + (1 : Int32); ((f_Y_store_l1_m a2 n) x34 M33)))
    (try dsimp only)
    by_cases hc2 : (160 : Int32) ≤ x30
    · skip
      refine ps_brp hc2 ?_
      refine And.intro trivial ?_
      (try simp only [if_pos hc2])
      exact so_Y_store_j1 (d := d) (ρ := ρ) M31 s_M31 hQ
    · skip
      refine ps_brn hc2 ?_
      (try simp only [if_neg hc2])
      have t_ := so_Y_load (d := d) (ρ := ρ) M31 ((a2 * (256 : Int32)) + x30) s_M31 
      refine ps_and t_.1 ?_
      replace t_ := t_.2
      refine ps_let ?_
      generalize e_x32 : f_Y_load_v M31 ((a2 * (256 : Int32)) + x30) = x32 at t_ ⊢
      refine ps_and (by first | assumption | (rw [vp_iff]; constructor <;> ((try simp only [ti_le, ti_lt, Int32.reduceToInt] at *) <;> omega))) ?_
      refine ps_let ?_
      have s_M33 : SC d ρ (mst M31 10 x30.toNatClampNeg x32) := SC.sa s_M31 (by decide)
      generalize e_M33 : mst M31 10 x30.toNatClampNeg x32 = M33 at s_M33 ⊢
      refine ps_let ?_
      generalize e_x34 : x30 + (1 : Int32) = x34
      have a_x34 : x34.toInt = x30.toInt + 1 := by rw [← e_x34, ti_add (by (try simp only [ti_le, ti_lt, Int32.reduceToInt] at *) <;> omega) (by (try simp only [ti_le, ti_lt, Int32.reduceToInt] at *) <;> omega)]; rfl
      exact hK1 x34 M33 s_M33 (by first | assumption | ((try simp only [ti_le, ti_lt, Int32.reduceToInt] at *) <;> omega)) (by first | assumption | ((try simp only [ti_le, ti_lt, Int32.reduceToInt] at *) <;> omega)) (by first | assumption | ((try simp only [ti_le, ti_lt, Int32.reduceToInt] at *) <;> omega))
set_option maxRecDepth 100000 in
set_option maxHeartbeats 4000000 in
theorem so_Y_store_j2 {d : Int32} {ρ : Nat → Int32} {Q : Mem → Prop} (M0 : Mem) (a1 : Int32) (a2 : Int32) (s_M0 : SC d ρ M0) (hQ : ∀ (M' : Mem), SC d ρ M' → Q M') : ok_Y_store_j2 M0 a1 a2 ∧ Q (f_Y_store_j2_m M0 a1 a2) := by
  unfold ok_Y_store_j2 f_Y_store_j2_m
  (try dsimp only)
  by_cases hc1 : a1 < (65280 : Int32)
  · skip
    refine ps_brp hc1 ?_
    refine And.intro trivial ?_
    (try simp only [if_pos hc1])
    exact so_Y_store_j1 (d := d) (ρ := ρ) M0 s_M0 hQ
  · skip
    refine ps_brn hc1 ?_
    (try simp only [if_neg hc1])
    have t_ := so_P_store (d := d) (ρ := ρ) M0 (a1 &&& (255 : Int32)) a2 s_M0 
    refine ps_and t_.1 ?_
    replace t_ := t_.2
    refine ps_let ?_
    generalize e_M29 : f_P_store_m M0 (a1 &&& (255 : Int32)) a2 = M29 at t_ ⊢
    have s_M29 := t_
    by_cases hc2 : a1 = (65350 : Int32)
    · skip
      refine ps_nrp hc2 ?_
      (try simp only [if_pos hc2])
      exact so_Y_store_l1 (d := d) (ρ := ρ) a2 hQ 161 (0 : Int32) M29 s_M29 (by first | assumption | ((try simp only [ti_le, ti_lt, Int32.reduceToInt] at *) <;> omega)) (by first | assumption | ((try simp only [ti_le, ti_lt, Int32.reduceToInt] at *) <;> omega)) (by first | assumption | ((try simp only [ti_le, ti_lt, Int32.reduceToInt] at *) <;> omega))
    · skip
      refine ps_nrn hc2 ?_
      refine And.intro trivial ?_
      (try simp only [if_neg hc2])
      exact so_Y_store_j1 (d := d) (ρ := ρ) M29 s_M29 hQ
set_option maxRecDepth 100000 in
set_option maxHeartbeats 4000000 in
theorem sq_Y_store {d : Int32} {ρ : Nat → Int32} {Q : Mem → Prop} (M0 : Mem) (a1 : Int32) (a2 : Int32) (s_M0 : SC d ρ M0) (hQ : ∀ (M' : Mem), SC d ρ M' → Q M') : ok_Y_store M0 a1 a2 ∧ Q (f_Y_store_m M0 a1 a2) := by
  unfold ok_Y_store f_Y_store_m
  (try dsimp only)
  by_cases hc1 : (32768 : Int32) ≤ a1
  · skip
    refine ps_brp hc1 ?_
    (try simp only [if_pos hc1])
    by_cases hc2 : (40960 : Int32) ≤ a1
    · skip
      refine ps_brp hc2 ?_
      (try simp only [if_pos hc2])
      by_cases hc3 : (49152 : Int32) ≤ a1
      · skip
        refine ps_brp hc3 ?_
        (try simp only [if_pos hc3])
        by_cases hc4 : (65024 : Int32) ≤ a1
        · skip
          refine ps_brp hc4 ?_
          (try simp only [if_pos hc4])
          by_cases hc5 : (65184 : Int32) ≤ a1
          · skip
            refine ps_brp hc5 ?_
            (try simp only [if_pos hc5])
            by_cases hc6 : a1 < (65408 : Int32)
            · skip
              refine ps_brp hc6 ?_
              (try simp only [if_pos hc6])
              exact so_Y_store_j2 (d := d) (ρ := ρ) M0 a1 a2 s_M0 hQ
            · skip
              refine ps_brn hc6 ?_
              (try simp only [if_neg hc6])
              by_cases hc7 : (65535 : Int32) ≤ a1
              · skip
                refine ps_brp hc7 ?_
                (try simp only [if_pos hc7])
                exact so_Y_store_j2 (d := d) (ρ := ρ) M0 a1 a2 s_M0 hQ
              · skip
                refine ps_brn hc7 ?_
                (try simp only [if_neg hc7])
                refine And.intro (by exact vp_and (by decide)) ?_
                have s_M35 : SC d ρ (mst M0 12 ((a1 &&& (127 : Int32))).toNatClampNeg a2) := SC.sa s_M0 (by decide)
                generalize e_M35 : mst M0 12 ((a1 &&& (127 : Int32))).toNatClampNeg a2 = M35 at s_M35 ⊢
                exact so_Y_store_j1 (d := d) (ρ := ρ) M35 s_M35 hQ
          · skip
            refine ps_brn hc5 ?_
            (try simp only [if_neg hc5])
            refine And.intro (by rw [vp_iff, ti_sub (by (try simp only [ti_le, ti_lt, Int32.reduceToInt] at *) <;> omega) (by (try simp only [ti_le, ti_lt, Int32.reduceToInt] at *) <;> omega)]; constructor <;> ((try simp only [ti_le, ti_lt, Int32.reduceToInt] at *) <;> omega)) ?_
            have s_M36 : SC d ρ (mst M0 10 ((a1 - (65024 : Int32))).toNatClampNeg a2) := SC.sa s_M0 (by decide)
            generalize e_M36 : mst M0 10 ((a1 - (65024 : Int32))).toNatClampNeg a2 = M36 at s_M36 ⊢
            exact so_Y_store_j1 (d := d) (ρ := ρ) M36 s_M36 hQ
        · skip
          refine ps_brn hc4 ?_
          (try simp only [if_neg hc4])
          refine And.intro (by exact vp_and (by decide)) ?_
          have s_M37 : SC d ρ (mst M0 11 ((a1 &&& (1023 : Int32))).toNatClampNeg a2) := SC.sa s_M0 (by decide)
          generalize e_M37 : mst M0 11 ((a1 &&& (1023 : Int32))).toNatClampNeg a2 = M37 at s_M37 ⊢
          exact so_Y_store_j1 (d := d) (ρ := ρ) M37 s_M37 hQ
      · skip
        refine ps_brn hc3 ?_
        (try simp only [if_neg hc3])
        have t_ := so_K_storeRam (d := d) (ρ := ρ) M0 a1 a2 s_M0 
        refine And.intro t_.1 ?_
        replace t_ := t_.2
        generalize e_M38 : f_K_storeRam_m M0 a1 a2 = M38 at t_ ⊢
        have s_M38 := t_
        exact so_Y_store_j1 (d := d) (ρ := ρ) M38 s_M38 hQ
    · skip
      refine ps_brn hc2 ?_
      (try simp only [if_neg hc2])
      refine And.intro (by exact vp_and (by decide)) ?_
      have s_M39 : SC d ρ (mst M0 9 ((a1 &&& (8191 : Int32))).toNatClampNeg a2) := SC.sa s_M0 (by decide)
      generalize e_M39 : mst M0 9 ((a1 &&& (8191 : Int32))).toNatClampNeg a2 = M39 at s_M39 ⊢
      exact so_Y_store_j1 (d := d) (ρ := ρ) M39 s_M39 hQ
  · skip
    refine ps_brn hc1 ?_
    (try simp only [if_neg hc1])
    have t_ := so_K_control (d := d) (ρ := ρ) M0 a1 a2 s_M0 
    refine And.intro t_.1 ?_
    replace t_ := t_.2
    generalize e_M40 : f_K_control_m M0 a1 a2 = M40 at t_ ⊢
    have s_M40 := t_
    exact so_Y_store_j1 (d := d) (ρ := ρ) M40 s_M40 hQ
theorem so_Y_store {d : Int32} {ρ : Nat → Int32} (M0 : Mem) (a1 : Int32) (a2 : Int32) (s_M0 : SC d ρ M0) : ok_Y_store M0 a1 a2 ∧ SC d ρ (f_Y_store_m M0 a1 a2) := sq_Y_store (d := d) (ρ := ρ) (Q := fun M' => SC d ρ M') M0 a1 a2 s_M0  (fun _ h0 => h0)
set_option maxRecDepth 100000 in
set_option maxHeartbeats 4000000 in
theorem sq_Q_push {d : Int32} {ρ : Nat → Int32} {Q : Mem → Prop} (M0 : Mem) (a1 : Int32) (s_M0 : SC d ρ M0) (hQ : ∀ (M' : Mem), SC d ρ M' → Q M') : ok_Q_push M0 a1 ∧ Q (f_Q_push_m M0 a1) := by
  unfold ok_Q_push f_Q_push_m
  (try dsimp only)
  have t_ := so_Y_store (d := d) (ρ := ρ) M0 (((M0 5 7) - (1 : Int32)) &&& (65535 : Int32)) (a1 >>> ((8 : Int32) &&& (31 : Int32))) s_M0 
  refine ps_and t_.1 ?_
  replace t_ := t_.2
  refine ps_let ?_
  generalize e_M1 : f_Y_store_m M0 (((M0 5 7) - (1 : Int32)) &&& (65535 : Int32)) (a1 >>> ((8 : Int32) &&& (31 : Int32))) = M1 at t_ ⊢
  have s_M1 := t_
  have t_ := so_Y_store (d := d) (ρ := ρ) M1 (((M1 5 7) - (2 : Int32)) &&& (65535 : Int32)) (a1 &&& (255 : Int32)) s_M1 
  refine And.intro t_.1 ?_
  replace t_ := t_.2
  generalize e_M2 : f_Y_store_m M1 (((M1 5 7) - (2 : Int32)) &&& (65535 : Int32)) (a1 &&& (255 : Int32)) = M2 at t_ ⊢
  have s_M2 := t_
  have s_M3 : SC d ρ (mst M2 5 7 (((M2 5 7) - (2 : Int32)) &&& (65535 : Int32))) := SC.sa s_M2 (by decide)
  generalize e_M3 : mst M2 5 7 (((M2 5 7) - (2 : Int32)) &&& (65535 : Int32)) = M3 at s_M3 ⊢
  have s_M4 : SC d ρ (mst M3 5 10 ((M3 5 10) + (3 : Int32))) := SC.sa s_M3 (by decide)
  generalize e_M4 : mst M3 5 10 ((M3 5 10) + (3 : Int32)) = M4 at s_M4 ⊢
  exact hQ _ s_M4
theorem so_Q_push {d : Int32} {ρ : Nat → Int32} (M0 : Mem) (a1 : Int32) (s_M0 : SC d ρ M0) : ok_Q_push M0 a1 ∧ SC d ρ (f_Q_push_m M0 a1) := sq_Q_push (d := d) (ρ := ρ) (Q := fun M' => SC d ρ M') M0 a1 s_M0  (fun _ h0 => h0)
set_option maxRecDepth 100000 in
set_option maxHeartbeats 4000000 in
theorem so_Q_takeInterrupt_j1 {d : Int32} {ρ : Nat → Int32} {Q : Mem → Prop} (M0 : Mem) (x1 : Int32) (s_M0 : SC d ρ M0) (hQ : ∀ (M' : Mem), SC d ρ M' → Q M') : ok_Q_takeInterrupt_j1 M0 x1 ∧ Q (f_Q_takeInterrupt_j1_m M0 x1) := by
  unfold ok_Q_takeInterrupt_j1 f_Q_takeInterrupt_j1_m
  (try dsimp only)
  refine ps_let ?_
  have s_M9 : SC d ρ (mst M0 5 3 (0 : Int32)) := SC.sa s_M0 (by decide)
  generalize e_M9 : mst M0 5 3 (0 : Int32) = M9 at s_M9 ⊢
  refine ps_let ?_
  have s_M10 : SC d ρ (mst M9 8 15 ((M9 8 15) &&& (((1 : Int32) <<< (x1 &&& (31 : Int32))) ^^^ (-1 : Int32)))) := SC.sa s_M9 (by decide)
  generalize e_M10 : mst M9 8 15 ((M9 8 15) &&& (((1 : Int32) <<< (x1 &&& (31 : Int32))) ^^^ (-1 : Int32))) = M10 at s_M10 ⊢
  have t_ := so_Q_push (d := d) (ρ := ρ) M10 (M10 5 8) s_M10 
  refine And.intro t_.1 ?_
  replace t_ := t_.2
  generalize e_M11 : f_Q_push_m M10 (M10 5 8) = M11 at t_ ⊢
  have s_M11 := t_
  have s_M12 : SC d ρ (mst M11 5 8 ((64 : Int32) + ((8 : Int32) * x1))) := SC.sa s_M11 (by decide)
  generalize e_M12 : mst M11 5 8 ((64 : Int32) + ((8 : Int32) * x1)) = M12 at s_M12 ⊢
  have s_M13 : SC d ρ (mst M12 5 10 (5 : Int32)) := SC.sa s_M12 (by decide)
  generalize e_M13 : mst M12 5 10 (5 : Int32) = M13 at s_M13 ⊢
  have s_M14 : SC d ρ (mst M13 5 2 ((M13 5 2) + (1 : Int32))) := SC.sa s_M13 (by decide)
  generalize e_M14 : mst M13 5 2 ((M13 5 2) + (1 : Int32)) = M14 at s_M14 ⊢
  exact hQ _ s_M14
set_option maxRecDepth 100000 in
set_option maxHeartbeats 4000000 in
theorem so_Q_takeInterrupt_l1 {d : Int32} {ρ : Nat → Int32} {Q : Mem → Prop} (M0 : Mem) (a1 : Int32) (s_M0 : SC d ρ M0) (hQ : ∀ (M' : Mem), SC d ρ M' → Q M') : ∀ (n : Nat) (x1 : Int32), 0 ≤ (x1).toInt → (x1).toInt ≤ 4 → 4 < (x1).toInt + n → ok_Q_takeInterrupt_l1 M0 a1 n x1 ∧ Q (f_Q_takeInterrupt_l1_m M0 a1 n x1) := by
  intro n
  induction n with
  | zero =>
    intro x1  hL0 hL1 hL2
    exact False.elim (by (try simp only [ti_le, ti_lt, Int32.reduceToInt] at *) <;> omega)
  | succ n ih =>
    intro x1  hL0 hL1 hL2
    have hK1 := ih
    show (((((4 : Int32) ≤ x1) → ok_Q_takeInterrupt_j1 M0 x1) ∧ ((¬ (4 : Int32) ≤ x1) → (((¬ ((a1 >>> (x1 &&& (31 : Int32))) &&& (1 : Int32)) = 0) → ok_Q_takeInterrupt_j1 M0 x1) ∧ ((((a1 >>> (x1 &&& (31 : Int32))) &&& (1 : Int32)) = 0) → ∀ x15 : Int32, x15 = x1 + (1 : Int32) → (ok_Q_takeInterrupt_l1 M0 a1 n) x15))))) ∧ Q ((if (4 : Int32) ≤ x1 then (f_Q_takeInterrupt_j1_m M0 x1) else (if ((a1 >>> (x1 &&& (31 : Int32))) &&& (1 : Int32)) = 0 then let x15 : Int32 := x1 + (1 : Int32); ((f_Q_takeInterrupt_l1_m M0 a1 n) x15) else (f_Q_takeInterrupt_j1_m M0 x1))))
    (try dsimp only)
    by_cases hc2 : (4 : Int32) ≤ x1
    · skip
      refine ps_brp hc2 ?_
      (try simp only [if_pos hc2])
      exact so_Q_takeInterrupt_j1 (d := d) (ρ := ρ) M0 x1 s_M0 hQ
    · skip
      refine ps_brn hc2 ?_
      (try simp only [if_neg hc2])
      by_cases hc3 : ((a1 >>> (x1 &&& (31 : Int32))) &&& (1 : Int32)) = 0
      · skip
        refine ps_nrp hc3 ?_
        (try simp only [if_pos hc3])
        refine ps_let ?_
        generalize e_x15 : x1 + (1 : Int32) = x15
        have a_x15 : x15.toInt = x1.toInt + 1 := by rw [← e_x15, ti_add (by (try simp only [ti_le, ti_lt, Int32.reduceToInt] at *) <;> omega) (by (try simp only [ti_le, ti_lt, Int32.reduceToInt] at *) <;> omega)]; rfl
        exact hK1 x15 (by first | assumption | ((try simp only [ti_le, ti_lt, Int32.reduceToInt] at *) <;> omega)) (by first | assumption | ((try simp only [ti_le, ti_lt, Int32.reduceToInt] at *) <;> omega)) (by first | assumption | ((try simp only [ti_le, ti_lt, Int32.reduceToInt] at *) <;> omega))
      · skip
        refine ps_nrn hc3 ?_
        (try simp only [if_neg hc3])
        exact so_Q_takeInterrupt_j1 (d := d) (ρ := ρ) M0 x1 s_M0 hQ
set_option maxRecDepth 100000 in
set_option maxHeartbeats 4000000 in
theorem sq_Q_takeInterrupt {d : Int32} {ρ : Nat → Int32} {Q : Mem → Prop} (M0 : Mem) (a1 : Int32) (s_M0 : SC d ρ M0) (hQ : ∀ (M' : Mem), SC d ρ M' → Q M') : ok_Q_takeInterrupt M0 a1 ∧ Q (f_Q_takeInterrupt_m M0 a1) := by
  unfold ok_Q_takeInterrupt f_Q_takeInterrupt_m
  (try dsimp only)
  exact so_Q_takeInterrupt_l1 (d := d) (ρ := ρ) M0 a1 s_M0 hQ 5 (0 : Int32) (by first | assumption | ((try simp only [ti_le, ti_lt, Int32.reduceToInt] at *) <;> omega)) (by first | assumption | ((try simp only [ti_le, ti_lt, Int32.reduceToInt] at *) <;> omega)) (by first | assumption | ((try simp only [ti_le, ti_lt, Int32.reduceToInt] at *) <;> omega))
theorem so_Q_takeInterrupt {d : Int32} {ρ : Nat → Int32} (M0 : Mem) (a1 : Int32) (s_M0 : SC d ρ M0) : ok_Q_takeInterrupt M0 a1 ∧ SC d ρ (f_Q_takeInterrupt_m M0 a1) := sq_Q_takeInterrupt (d := d) (ρ := ρ) (Q := fun M' => SC d ρ M') M0 a1 s_M0  (fun _ h0 => h0)
