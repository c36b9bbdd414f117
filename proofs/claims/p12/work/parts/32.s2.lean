/-! The reference is safe: rows, steps. -/
theorem div8_d : ∀ j : Fin 256, (nI j.val) / (8 : Int32) = nI (j.val / 8) := by decide +kernel
theorem div8_rng {x : Int32} (h : oct x) : 0 ≤ (x / (8 : Int32)).toInt ∧ (x / (8 : Int32)).toInt < 32 := by
  obtain ⟨j, hj, rfl⟩ := of_nI (n := 256) h (by decide)
  have e : (nI j) / (8 : Int32) = nI (j / 8) := div8_d ⟨j, hj⟩
  rw [e, nI_toInt (by omega)]; omega
theorem bg_in {m u v : Int32} (hm : 38912 ≤ m.toInt ∧ m.toInt ≤ 39936) (hu : oct u) (hv : oct v) : vp_in (((m + ((32 : Int32) * (u / (8 : Int32)))) + (v / (8 : Int32))) - (32768 : Int32)) 8192 := by
  have h1 := div8_rng hu
  have h2 := div8_rng hv
  have h4 : (32 : Int32).toInt = 32 := by decide
  have h5 : ((32 : Int32) * (u / (8 : Int32))).toInt = 32 * (u / (8 : Int32)).toInt := by rw [ti_mul (by rw [h4]; omega) (by rw [h4]; omega), h4]
  have h6 : (m + ((32 : Int32) * (u / (8 : Int32)))).toInt = m.toInt + 32 * (u / (8 : Int32)).toInt := by rw [ti_add (by omega) (by omega), h5]
  have h7 : ((m + ((32 : Int32) * (u / (8 : Int32)))) + (v / (8 : Int32))).toInt = m.toInt + 32 * (u / (8 : Int32)).toInt + (v / (8 : Int32)).toInt := by rw [ti_add (by omega) (by omega), h6]
  have h8 : (32768 : Int32).toInt = 32768 := by decide
  rw [vp_iff, ti_sub (by omega) (by omega)]
  omega
theorem dots_in {b : Int32} (u : Int32) (hb : 32768 ≤ b.toInt ∧ b.toInt ≤ 38896) : 32768 ≤ (b + ((2 : Int32) * (u &&& (7 : Int32)))).toInt ∧ (b + ((2 : Int32) * (u &&& (7 : Int32)))).toInt < 40959 := by
  have h1 := and_rng u 7 (by decide)
  have h3 : (7 : Int32).toInt = 7 := by decide
  have h4 : (2 : Int32).toInt = 2 := by decide
  have h5 : ((2 : Int32) * (u &&& (7 : Int32))).toInt = 2 * (u &&& (7 : Int32)).toInt := by rw [ti_mul (by rw [h4]; omega) (by rw [h4]; omega), h4]
  rw [ti_add (by omega) (by omega)]
  omega
theorem tile_a {t : Int32} (h : -128 ≤ t.toInt ∧ t.toInt < 128) : 32768 ≤ ((36864 : Int32) + ((16 : Int32) * t)).toInt ∧ ((36864 : Int32) + ((16 : Int32) * t)).toInt ≤ 38896 := by
  have h4 : (16 : Int32).toInt = 16 := by decide
  have h3 : (36864 : Int32).toInt = 36864 := by decide
  have h5 : ((16 : Int32) * t).toInt = 16 * t.toInt := by rw [ti_mul (by rw [h4]; omega) (by rw [h4]; omega), h4]
  rw [ti_add (by omega) (by omega)]; omega
theorem tile_b {t : Int32} (h : oct t) : 32768 ≤ ((32768 : Int32) + ((16 : Int32) * t)).toInt ∧ ((32768 : Int32) + ((16 : Int32) * t)).toInt ≤ 38896 := by
  have h4 : (16 : Int32).toInt = 16 := by decide
  have h3 : (32768 : Int32).toInt = 32768 := by decide
  have h5 : ((16 : Int32) * t).toInt = 16 * t.toInt := by rw [ti_mul (by rw [h4]; omega) (by rw [h4]; omega), h4]
  rw [ti_add (by omega) (by omega)]; omega
theorem num_in {t r : Int32} (h : oct t) (hr : 0 ≤ r.toInt ∧ r.toInt < 16) : 32768 ≤ (((32768 : Int32) + ((16 : Int32) * t)) + ((2 : Int32) * r)).toInt ∧ (((32768 : Int32) + ((16 : Int32) * t)) + ((2 : Int32) * r)).toInt < 40959 := by
  have h4 : (16 : Int32).toInt = 16 := by decide
  have h3 : (32768 : Int32).toInt = 32768 := by decide
  have h5 : ((16 : Int32) * t).toInt = 16 * t.toInt := by rw [ti_mul (by rw [h4]; omega) (by rw [h4]; omega), h4]
  have h6 : ((32768 : Int32) + ((16 : Int32) * t)).toInt = 32768 + 16 * t.toInt := by rw [ti_add (by omega) (by omega)]; omega
  have h7 : (2 : Int32).toInt = 2 := by decide
  have h8 : ((2 : Int32) * r).toInt = 2 * r.toInt := by rw [ti_mul (by rw [h7]; omega) (by rw [h7]; omega), h7]
  rw [ti_add (by omega) (by omega)]; omega
theorem win_x {x w : Int32} (hx : 0 ≤ x.toInt ∧ x.toInt < 160) (hw : oct w) (h : w.toInt ≤ x.toInt + 7) : oct ((x + (7 : Int32)) - w) := by
  have h7 : (7 : Int32).toInt = 7 := by decide
  have h8 : (x + (7 : Int32)).toInt = x.toInt + 7 := by rw [ti_add (by omega) (by omega), h7]
  unfold oct; rw [ti_sub (by omega) (by omega)]; omega
theorem win_y {y w : Int32} (hy : 0 ≤ y.toInt ∧ y.toInt < 144) (hw : oct w) (h : w.toInt ≤ y.toInt) : oct (y - w) := by
  unfold oct; rw [ti_sub (by omega) (by omega)]; omega
theorem x7 {x w : Int32} (hx : 0 ≤ x.toInt ∧ x.toInt < 160) (h : ¬ (x + (7 : Int32)) < w) : w.toInt ≤ x.toInt + 7 := by
  have h7 : (7 : Int32).toInt = 7 := by decide
  have h8 : (x + (7 : Int32)).toInt = x.toInt + 7 := by rw [ti_add (by omega) (by omega), h7]
  rw [ti_lt] at h; omega
theorem flip_in {h t : Int32} (hh : h.toInt ≤ 16) (ht : 0 ≤ t.toInt) (hl : t.toInt < h.toInt) : 0 ≤ ((h - (1 : Int32)) - t).toInt ∧ ((h - (1 : Int32)) - t).toInt < 16 := by
  have h7 : (1 : Int32).toInt = 1 := by decide
  have h8 : (h - (1 : Int32)).toInt = h.toInt - 1 := by rw [ti_sub (by omega) (by omega), h7]
  rw [ti_sub (by omega) (by omega)]; omega
/-- the sprite that was found lies on the row -/
def PBr (N : Mem) (y k : Int32) : Prop := k.toInt < 0 ∨ (0 ≤ k.toInt ∧ k.toInt ≤ 156 ∧ 0 ≤ (y - ((N 5 k.toNatClampNeg) - (16 : Int32))).toInt ∧ ((((N 0 33) &&& (4 : Int32)) ≤ 0) → (y - ((N 5 k.toNatClampNeg) - (16 : Int32))).toInt < 8) ∧ ((¬ ((N 0 33) &&& (4 : Int32)) ≤ 0) → (y - ((N 5 k.toNatClampNeg) - (16 : Int32))).toInt < 16))
theorem PBr_m1 {N : Mem} {y : Int32} : PBr N y (-1) := Or.inl (by decide)
theorem PBr_of {N : Mem} {y : Int32} : ∀ (h k : Int32), (h = 8 ∧ ((N 0 33) &&& (4 : Int32)) ≤ 0 ∨ h = 16 ∧ ¬ ((N 0 33) &&& (4 : Int32)) ≤ 0) → 0 ≤ k.toInt → k.toInt ≤ 156 → ¬ (y - ((N 5 k.toNatClampNeg) - (16 : Int32))) < 0 → (y - ((N 5 k.toNatClampNeg) - (16 : Int32))) < h → PBr N y k := by
  intro h k hh h1 h2 h3 h4
  rw [ti_lt] at h3 h4
  have h0 : (0 : Int32).toInt = 0 := by decide
  have h8 : (8 : Int32).toInt = 8 := by decide
  have h16 : (16 : Int32).toInt = 16 := by decide
  refine Or.inr ⟨h1, h2, by omega, fun hc => ?_, fun hc => ?_⟩
  · rcases hh with ⟨rfl, -⟩ | ⟨-, hn⟩
    · omega
    · exact absurd hc hn
  · rcases hh with ⟨-, hn⟩ | ⟨rfl, -⟩
    · exact absurd hn hc
    · omega
theorem PBr.a {N : Mem} {y k : Int32} (h : PBr N y k) (hk : ¬ k < 0) : 0 ≤ k.toInt ∧ k.toInt ≤ 156 := by
  rw [ti_lt] at hk
  have h0 : (0 : Int32).toInt = 0 := by decide
  rcases h with h | h <;> omega
theorem PBr.b {N : Mem} {y k : Int32} (h : PBr N y k) (hk : ¬ k < 0) : 0 ≤ (y - ((N 5 k.toNatClampNeg) - (16 : Int32))).toInt := by
  rw [ti_lt] at hk
  have h0 : (0 : Int32).toInt = 0 := by decide
  rcases h with h | h
  · omega
  · exact h.2.2.1
theorem PBr.c {N : Mem} {y k : Int32} (h : PBr N y k) (hk : ¬ k < 0) (hc : ((N 0 33) &&& (4 : Int32)) ≤ 0) : (y - ((N 5 k.toNatClampNeg) - (16 : Int32))).toInt < 8 := by
  rw [ti_lt] at hk
  have h0 : (0 : Int32).toInt = 0 := by decide
  rcases h with h | h
  · omega
  · exact h.2.2.2.1 hc
theorem PBr.d {N : Mem} {y k : Int32} (h : PBr N y k) (hk : ¬ k < 0) (hc : ¬ ((N 0 33) &&& (4 : Int32)) ≤ 0) : (y - ((N 5 k.toNatClampNeg) - (16 : Int32))).toInt < 16 := by
  rw [ti_lt] at hk
  have h0 : (0 : Int32).toInt = 0 := by decide
  rcases h with h | h
  · omega
  · exact h.2.2.2.2 hc
/-- which interrupt: a bit will be found -/
def LCs (due x : Int32) (n : Nat) : Prop := ∃ k j : Nat, k ≤ 4 ∧ 4 < k + n ∧ x = nI k ∧ due = nI j ∧ 1 ≤ j / 2 ^ k ∧ j < 32
theorem LCs_d : ∀ j : Fin 32, ∀ k : Fin 5, 1 ≤ j.val / 2 ^ k.val → (((nI j.val) >>> ((nI k.val) &&& (31 : Int32))) &&& (1 : Int32)) = 0 → k.val ≤ 3 ∧ 1 ≤ j.val / 2 ^ (k.val + 1) := by decide +kernel
theorem LCs_next {due x : Int32} {n : Nat} (h : LCs due x (n + 1)) (hc : ((due >>> (x &&& (31 : Int32))) &&& (1 : Int32)) = 0) : LCs due (x + (1 : Int32)) n := by
  obtain ⟨k, j, h1, h2, rfl, rfl, h5, h6⟩ := h
  have h7 := LCs_d ⟨j, h6⟩ ⟨k, by omega⟩ h5 hc
  exact ⟨k + 1, j, by have := h7.1; show k + 1 ≤ 4; exact Nat.succ_le_succ this, by omega, nI_1 k, rfl, h7.2, h6⟩
theorem LCs_start {x : Int32} (h : 0 ≤ x.toInt ∧ x.toInt < 32) (h0 : ¬ x = 0) : LCs x (0 : Int32) 33 := by
  obtain ⟨j, hj, rfl⟩ := of_nI (n := 32) h (by decide)
  refine ⟨0, j, by decide, by decide, rfl, rfl, ?_, hj⟩
  have : j ≠ 0 := fun e => h0 (by subst e; rfl)
  show 1 ≤ j / 1
  omega
theorem LCs_zero {due x : Int32} (h : LCs due x 0) : False := by
  obtain ⟨k, j, h1, h2, -⟩ := h; omega
theorem LCs_pc {due x : Int32} {n : Nat} (h : LCs due x n) : rLo 19 ≤ ((64 : Int32) + ((8 : Int32) * x)).toInt ∧ ((64 : Int32) + ((8 : Int32) * x)).toInt < rHi 19 := by
  obtain ⟨k, j, h1, h2, rfl, -⟩ := h
  match k, h1 with
  | 0, _ => decide
  | 1, _ => decide
  | 2, _ => decide
  | 3, _ => decide
  | 4, _ => decide
theorem cy_3 (M : Mem) : f_R_cycle_j3_m M 0 20 = M 0 20 := by
  unfold f_R_cycle_j3_m f_R_cycle_j4_m; (try dsimp only); repeat' split
  all_goals simp [mst, upd]
theorem cy_2 (M : Mem) : f_R_cycle_j2_m M 0 20 = M 0 20 := by
  unfold f_R_cycle_j2_m f_R_cycle_j5_m; (try dsimp only); repeat' split
  all_goals simp [cy_3, mst, upd]
theorem cy_1 (M : Mem) (x : Int32) : f_R_cycle_j1_m M x 0 20 = M 0 20 := by
  unfold f_R_cycle_j1_m; (try dsimp only); repeat' split
  all_goals simp [cy_2, mst, upd]
theorem cy_cost (M : Mem) : f_R_cycle_m M 0 20 = M 0 20 := by
  unfold f_R_cycle_m; (try dsimp only); repeat' split
  all_goals simp [cy_1, mst, upd]
set_option maxRecDepth 100000 in
set_option maxHeartbeats 4000000 in
theorem so_R_step_j3 {d : Int32} {ρ : Nat → Int32} {Q : Int32 → Mem → Prop} (M87 : Mem) (s_M87 : SR d ρ M87) (hQ : ∀ (x : Int32) (M' : Mem), SR d ρ M' → Q x M') : Q (f_R_step_j3_v M87) (f_R_step_j3_m M87) := by
  unfold f_R_step_j3_v f_R_step_j3_m
  (try dsimp only)
  have s_M88 : SR d ρ (mst M87 0 48 ((M87 0 48) + (1 : Int32))) := SR.sf s_M87 (by decide) (any_rng _)
  generalize e_M88 : mst M87 0 48 ((M87 0 48) + (1 : Int32)) = M88 at s_M88 ⊢
  exact hQ _ _ s_M88
set_option maxRecDepth 100000 in
set_option maxHeartbeats 4000000 in
theorem so_R_step_j2 {d : Int32} {ρ : Nat → Int32} {Q : Int32 → Mem → Prop} (x59 : Int32) (x61 : Int32) (M83 : Mem) (s_M83 : SR d ρ M83) (hQ : ∀ (x : Int32) (M' : Mem), SR d ρ M' → Q x M') : Q (f_R_step_j2_v x59 x61 M83) (f_R_step_j2_m x59 x61 M83) := by
  unfold f_R_step_j2_v f_R_step_j2_m
  (try dsimp only)
  by_cases hc1 : (M83 0 23) = 0
  · skip
    (try simp only [if_pos hc1])
    by_cases hc2 : x59 = 0
    · skip
      (try simp only [if_pos hc2])
      exact so_R_step_j3 (d := d) (ρ := ρ) M83 s_M83 hQ
    · skip
      (try simp only [if_neg hc2])
      by_cases hc3 : x61 = (243 : Int32)
      · skip
        (try simp only [if_pos hc3])
        exact so_R_step_j3 (d := d) (ρ := ρ) M83 s_M83 hQ
      · skip
        (try simp only [if_neg hc3])
        have s_M89 : SR d ρ (mst M83 0 21 (1 : Int32)) := SR.sf s_M83 (by decide) (any_rng _)
        generalize e_M89 : mst M83 0 21 (1 : Int32) = M89 at s_M89 ⊢
        exact so_R_step_j3 (d := d) (ρ := ρ) M89 s_M89 hQ
  · skip
    (try simp only [if_neg hc1])
    have s_M90 : SR d ρ (mst M83 0 20 (0 : Int32)) := SR.sf s_M83 (by decide) (any_rng _)
    generalize e_M90 : mst M83 0 20 (0 : Int32) = M90 at s_M90 ⊢
    exact hQ _ _ s_M90
set_option maxRecDepth 100000 in
set_option maxHeartbeats 4000000 in
theorem so_R_step_j1 {d : Int32} {ρ : Nat → Int32} {Q : Int32 → Mem → Prop} (M58 : Mem) (s_M58 : SR d ρ M58) (hQ : ∀ (x : Int32) (M' : Mem), SR d ρ M' → Q x M') : ok_R_step_j1 M58 ∧ Q (f_R_step_j1_v M58) (f_R_step_j1_m M58) := by
  unfold ok_R_step_j1 f_R_step_j1_v f_R_step_j1_m
  (try dsimp only)
  by_cases hc1 : (M58 0 22) = 0
  · skip
    refine ps_brp hc1 ?_
    (try simp only [if_pos hc1])
    refine ps_let ?_
    generalize e_x59 : (M58 0 24) = x59
    refine ps_let ?_
    have s_M60 : SR d ρ (mst M58 0 24 (0 : Int32)) := SR.sf s_M58 (by decide) (any_rng _)
    generalize e_M60 : mst M58 0 24 (0 : Int32) = M60 at s_M60 ⊢
    have t_ := so_R_next (d := d) (ρ := ρ) M60 s_M60 
    refine ps_and t_.1 ?_
    replace t_ := t_.2
    refine ps_let ?_
    refine ps_let ?_
    generalize e_x61 : f_R_next_v M60 = x61 at t_ ⊢
    generalize e_M62 : f_R_next_m M60 = M62 at t_ ⊢
    obtain ⟨s_M62, q0_x61⟩ := t_
    refine ps_let ?_
    generalize e_x63 : (x61 >>> ((6 : Int32) &&& (31 : Int32))) = x63
    refine ps_let ?_
    generalize e_x64 : ((x61 >>> ((3 : Int32) &&& (31 : Int32))) &&& (7 : Int32)) = x64
    have q0_x64 : 0 ≤ (x64).toInt ∧ (x64).toInt < 8 := by rw [← e_x64]; exact and_lt (by decide)
    refine ps_let ?_
    generalize e_x65 : (x61 &&& (7 : Int32)) = x65
    have q0_x65 : 0 ≤ (x65).toInt ∧ (x65).toInt < 8 := by rw [← e_x65]; exact and_lt (by decide)
    by_cases hc2 : x63 = 0
    · skip
      refine ps_nrp hc2 ?_
      (try simp only [if_pos hc2])
      have t_ := so_R_first (d := d) (ρ := ρ) M62 x64 x65 s_M62 (by first | assumption | decide | (constructor <;> ((try simp only [ti_le, ti_lt, ti_eq, Int32.reduceToInt] at *) <;> omega)))
      refine And.intro t_.1 ?_
      replace t_ := t_.2
      generalize e_M99 : f_R_first_m M62 x64 x65 = M99 at t_ ⊢
      have s_M99 := t_
      exact so_R_step_j2 (d := d) (ρ := ρ) x59 x61 M99 s_M99 hQ
    · skip
      refine ps_nrn hc2 ?_
      (try simp only [if_neg hc2])
      by_cases hc3 : x61 = (118 : Int32)
      · skip
        refine ps_nrp hc3 ?_
        refine And.intro trivial ?_
        (try simp only [if_pos hc3])
        have s_M98 : SR d ρ (mst M62 0 22 (1 : Int32)) := SR.sf s_M62 (by decide) (any_rng _)
        generalize e_M98 : mst M62 0 22 (1 : Int32) = M98 at s_M98 ⊢
        exact so_R_step_j2 (d := d) (ρ := ρ) x59 x61 M98 s_M98 hQ
      · skip
        refine ps_nrn hc3 ?_
        (try simp only [if_neg hc3])
        by_cases hc4 : x63 = (1 : Int32)
        · skip
          refine ps_nrp hc4 ?_
          (try simp only [if_pos hc4])
          have t_ := so_R_operand (d := d) (ρ := ρ) M62 x65 s_M62 (by first | assumption | decide | (constructor <;> ((try simp only [ti_le, ti_lt, ti_eq, Int32.reduceToInt] at *) <;> omega)))
          refine ps_and t_.1 ?_
          replace t_ := t_.2
          refine ps_let ?_
          refine ps_let ?_
          generalize e_x95 : f_R_operand_v M62 x65 = x95 at t_ ⊢
          generalize e_M96 : f_R_operand_m M62 x65 = M96 at t_ ⊢
          obtain ⟨s_M96, q0_x95⟩ := t_
          have t_ := so_R_setOperand (d := d) (ρ := ρ) M96 x64 x95 s_M96 (by first | assumption | decide | (constructor <;> ((try simp only [ti_le, ti_lt, ti_eq, Int32.reduceToInt] at *) <;> omega)))
          refine And.intro t_.1 ?_
          replace t_ := t_.2
          generalize e_M97 : f_R_setOperand_m M96 x64 x95 = M97 at t_ ⊢
          have s_M97 := t_
          exact so_R_step_j2 (d := d) (ρ := ρ) x59 x61 M97 s_M97 hQ
        · skip
          refine ps_nrn hc4 ?_
          (try simp only [if_neg hc4])
          by_cases hc5 : x63 = (2 : Int32)
          · skip
            refine ps_nrp hc5 ?_
            (try simp only [if_pos hc5])
            have t_ := so_R_operand (d := d) (ρ := ρ) M62 x65 s_M62 (by first | assumption | decide | (constructor <;> ((try simp only [ti_le, ti_lt, ti_eq, Int32.reduceToInt] at *) <;> omega)))
            refine ps_and t_.1 ?_
            replace t_ := t_.2
            refine ps_let ?_
            refine ps_let ?_
            generalize e_x92 : f_R_operand_v M62 x65 = x92 at t_ ⊢
            generalize e_M93 : f_R_operand_m M62 x65 = M93 at t_ ⊢
            obtain ⟨s_M93, q0_x92⟩ := t_
            have t_ := so_R_reckons (d := d) (ρ := ρ) M93 x64 x92 s_M93 (by first | assumption | decide | (constructor <;> ((try simp only [ti_le, ti_lt, ti_eq, Int32.reduceToInt] at *) <;> omega)))
            refine And.intro t_.1 ?_
            replace t_ := t_.2
            generalize e_M94 : f_R_reckons_m M93 x64 x92 = M94 at t_ ⊢
            have s_M94 := t_
            exact so_R_step_j2 (d := d) (ρ := ρ) x59 x61 M94 s_M94 hQ
          · skip
            refine ps_nrn hc5 ?_
            (try simp only [if_neg hc5])
            have t_ := so_R_third (d := d) (ρ := ρ) M62 x64 x65 s_M62 (by first | assumption | decide | (constructor <;> ((try simp only [ti_le, ti_lt, ti_eq, Int32.reduceToInt] at *) <;> omega)))
            refine And.intro t_.1 ?_
            replace t_ := t_.2
            generalize e_M91 : f_R_third_m M62 x64 x65 = M91 at t_ ⊢
            have s_M91 := t_
            exact so_R_step_j2 (d := d) (ρ := ρ) x59 x61 M91 s_M91 hQ
  · skip
    refine ps_brn hc1 ?_
    refine And.intro trivial ?_
    (try simp only [if_neg hc1])
    have s_M100 : SR d ρ (mst M58 0 48 ((M58 0 48) + (1 : Int32))) := SR.sf s_M58 (by decide) (any_rng _)
    generalize e_M100 : mst M58 0 48 ((M58 0 48) + (1 : Int32)) = M100 at s_M100 ⊢
    have s_M101 : SR d ρ (mst M100 0 20 (1 : Int32)) := SR.sf s_M100 (by decide) (any_rng _)
    generalize e_M101 : mst M100 0 20 (1 : Int32) = M101 at s_M101 ⊢
    exact hQ _ _ s_M101
set_option maxRecDepth 100000 in
set_option maxHeartbeats 4000000 in
theorem so_R_step_l1 {d : Int32} {ρ : Nat → Int32} {Q : Int32 → Mem → Prop} (x1 : Int32) (M102 : Mem) (s_M102 : SR d ρ M102) (hQ : ∀ (x : Int32) (M' : Mem), SR d ρ M' → Q x M') : ∀ (n : Nat) (x103 : Int32), LCs x1 x103 n → ok_R_step_l1 x1 M102 n x103 ∧ Q (f_R_step_l1_v x1 M102 n x103) (f_R_step_l1_m x1 M102 n x103) := by
  intro n
  induction n with
  | zero =>
    intro x103  hL0
    exact False.elim (by exact LCs_zero hL0)
  | succ n ih =>
    intro x103  hL0
    have hK1 := ih
    show ((((¬ ((x1 >>> (x103 &&& (31 : Int32))) &&& (1 : Int32)) = 0) → ∀ M104 : Mem, M104 = mst M102 0 21 (0 : Int32) → ∀ M105 : Mem, M105 = mst M104 0 24 (0 : Int32) → ∀ M106 : Mem, M106 = mst M105 0 31 ((M105 0 31) &&& (((1 : Int32) <<< (x103 &&& (31 : Int32))) ^^^ (-1 : Int32))) → ok_R_push M106 (M106 0 19)) ∧ ((((x1 >>> (x103 &&& (31 : Int32))) &&& (1 : Int32)) = 0) → ∀ x112 : Int32, x112 = x103 + (1 : Int32) → (ok_R_step_l1 x1 M102 n) x112))) ∧ Q ((if ((x1 >>> (x103 &&& (31 : Int32))) &&& (1 : Int32)) = 0 then let x112 : Int32 := x103 + (1 : Int32); ((f_R_step_l1_v x1 M102 n) x112) else (1 : Int32))) ((if ((x1 >>> (x103 &&& (31 : Int32))) &&& (1 : Int32)) = 0 then let x112 : Int32 := x103 + (1 : Int32); ((f_R_step_l1_m x1 M102 n) x112) else let M104 : Mem := mst M102 0 21 (0 : Int32); let M105 : Mem := mst M104 0 24 (0 : Int32); let M106 : Mem := mst M105 0 31 ((M105 0 31) &&& (((1 : Int32) <<< (x103 &&& (31 : Int32))) ^^^ (-1 : Int32))); let M107 : Mem := f_R_push_m M106 (M106 0 19); let M108 : Mem := mst M107 0 19 ((64 : Int32) + ((8 : Int32) * x103)); let M109 : Mem := mst M108 0 20 (5 : Int32); let M110 : Mem := mst M109 0 49 ((M109 0 49) + (1 : Int32)); let M111 : Mem := mst M110 0 48 ((M110 0 48) + (1 : Int32)); M111))
    (try dsimp only)
    by_cases hc2 : ((x1 >>> (x103 &&& (31 : Int32))) &&& (1 : Int32)) = 0
    · skip
      refine ps_nrp hc2 ?_
      (try simp only [if_pos hc2])
      refine ps_let ?_
      generalize e_x112 : x103 + (1 : Int32) = x112
      exact hK1 x112 (by rw [← e_x112]; exact LCs_next hL0 (by assumption))
    · skip
      refine ps_nrn hc2 ?_
      (try simp only [if_neg hc2])
      refine ps_let ?_
      have s_M104 : SR d ρ (mst M102 0 21 (0 : Int32)) := SR.sf s_M102 (by decide) (any_rng _)
      generalize e_M104 : mst M102 0 21 (0 : Int32) = M104 at s_M104 ⊢
      refine ps_let ?_
      have s_M105 : SR d ρ (mst M104 0 24 (0 : Int32)) := SR.sf s_M104 (by decide) (any_rng _)
      generalize e_M105 : mst M104 0 24 (0 : Int32) = M105 at s_M105 ⊢
      refine ps_let ?_
      have s_M106 : SR d ρ (mst M105 0 31 ((M105 0 31) &&& (((1 : Int32) <<< (x103 &&& (31 : Int32))) ^^^ (-1 : Int32)))) := SR.sf s_M105 (by decide) (andl_rng (s_M105.f 31))
      generalize e_M106 : mst M105 0 31 ((M105 0 31) &&& (((1 : Int32) <<< (x103 &&& (31 : Int32))) ^^^ (-1 : Int32))) = M106 at s_M106 ⊢
      have t_ := so_R_push (d := d) (ρ := ρ) M106 (M106 0 19) s_M106 
      refine And.intro t_.1 ?_
      replace t_ := t_.2
      generalize e_M107 : f_R_push_m M106 (M106 0 19) = M107 at t_ ⊢
      have s_M107 := t_
      have s_M108 : SR d ρ (mst M107 0 19 ((64 : Int32) + ((8 : Int32) * x103))) := SR.sf s_M107 (by decide) (LCs_pc hL0)
      generalize e_M108 : mst M107 0 19 ((64 : Int32) + ((8 : Int32) * x103)) = M108 at s_M108 ⊢
      have s_M109 : SR d ρ (mst M108 0 20 (5 : Int32)) := SR.sf s_M108 (by decide) (any_rng _)
      generalize e_M109 : mst M108 0 20 (5 : Int32) = M109 at s_M109 ⊢
      have s_M110 : SR d ρ (mst M109 0 49 ((M109 0 49) + (1 : Int32))) := SR.sf s_M109 (by decide) (any_rng _)
      generalize e_M110 : mst M109 0 49 ((M109 0 49) + (1 : Int32)) = M110 at s_M110 ⊢
      have s_M111 : SR d ρ (mst M110 0 48 ((M110 0 48) + (1 : Int32))) := SR.sf s_M110 (by decide) (any_rng _)
      generalize e_M111 : mst M110 0 48 ((M110 0 48) + (1 : Int32)) = M111 at s_M111 ⊢
      exact hQ _ _ s_M111
set_option maxRecDepth 100000 in
set_option maxHeartbeats 4000000 in
theorem sq_R_step {d : Int32} {ρ : Nat → Int32} {Q : Int32 → Mem → Prop} (M0 : Mem) (s_M0 : SR d ρ M0) (hQ : ∀ (x : Int32) (M' : Mem), SR d ρ M' → Q x M') : ok_R_step M0 ∧ Q (f_R_step_v M0) (f_R_step_m M0) := by
  unfold ok_R_step f_R_step_v f_R_step_m
  (try dsimp only)
  refine ps_let ?_
  generalize e_x1 : (((M0 0 32) &&& (M0 0 31)) &&& (31 : Int32)) = x1
  have q0_x1 : 0 ≤ (x1).toInt ∧ (x1).toInt < 32 := by rw [← e_x1]; exact and_lt (by decide)
  refine ps_let ?_
  have s_M2 : SR d ρ (mst M0 0 20 (0 : Int32)) := SR.sf s_M0 (by decide) (any_rng _)
  generalize e_M2 : mst M0 0 20 (0 : Int32) = M2 at s_M2 ⊢
  by_cases hc1 : x1 = 0
  · skip
    refine ps_brp hc1 ?_
    (try simp only [if_pos hc1])
    exact so_R_step_j1 (d := d) (ρ := ρ) M2 s_M2 hQ
  · skip
    refine ps_brn hc1 ?_
    (try simp only [if_neg hc1])
    refine ps_let ?_
    have s_M102 : SR d ρ (mst M2 0 22 (0 : Int32)) := SR.sf s_M2 (by decide) (any_rng _)
    generalize e_M102 : mst M2 0 22 (0 : Int32) = M102 at s_M102 ⊢
    by_cases hc2 : (M102 0 21) = 0
    · skip
      refine ps_brp hc2 ?_
      (try simp only [if_pos hc2])
      exact so_R_step_j1 (d := d) (ρ := ρ) M102 s_M102 hQ
    · skip
      refine ps_brn hc2 ?_
      (try simp only [if_neg hc2])
      exact so_R_step_l1 (d := d) (ρ := ρ) x1 M102 s_M102 hQ 33 (0 : Int32) (by exact LCs_start q0_x1 (by assumption))
theorem so_R_step {d : Int32} {ρ : Nat → Int32} (M0 : Mem) (s_M0 : SR d ρ M0) : ok_R_step M0 ∧ SR d ρ (f_R_step_m M0) := sq_R_step (d := d) (ρ := ρ) (Q := fun _ M' => SR d ρ M') M0 s_M0  (fun _ _ h0 => h0)
set_option maxRecDepth 100000 in
set_option maxHeartbeats 4000000 in
theorem so_R_run_l2 {d : Int32} {ρ : Nat → Int32} {Q : Int32 → Mem → Prop} (x214 : Int32) (x215 : Int32) (n0 : Nat) (K1_v : Int32 → Int32 → Mem → Int32) (K1_m : Int32 → Int32 → Mem → Mem) (K1_ok : Int32 → Int32 → Mem → Prop) (hq0 : 0 ≤ (x215).toInt) (hq1 : (x215).toInt < 100) (hq2 : 100 < (x215).toInt + (n0 + 1)) (hK1 : ∀ (z0 : Int32) (z1 : Int32) (z2 : Mem), SR d ρ z2 → 0 ≤ (z1).toInt → (z1).toInt ≤ 100 → 100 < (z1).toInt + n0 → K1_ok z0 z1 z2 ∧ Q (K1_v z0 z1 z2) (K1_m z0 z1 z2)) (hQ : ∀ (x : Int32) (M' : Mem), SR d ρ M' → Q x M') : ∀ (n : Nat) (x231 : Int32) (M232 : Mem), SR d ρ M232 → 0 ≤ (x231).toInt → (M232 0 20).toInt < (x231).toInt + n → 0 < ((n : Nat) : Int) → ok_R_run_l2 x214 x215 K1_ok n x231 M232 ∧ Q (f_R_run_l2_v x214 x215 K1_v n x231 M232) (f_R_run_l2_m x214 x215 K1_m n x231 M232) := by
  intro n
  induction n with
  | zero =>
    intro x231 M232 s_M232 hL0 hL1 hL2
    exact False.elim (by (try simp only [ti_le, ti_lt, Int32.reduceToInt] at *) <;> omega)
  | succ n ih =>
    intro x231 M232 s_M232 hL0 hL1 hL2
    have hK2 := ih
    show (((((M232 0 20) ≤ x231) → ∀ x233 : Int32, x233 = (x214 + (M232 0 20)) → ∀ x234 : Int32, x234 = x215 + (1 : Int32) → K1_ok x233 x234 M232) ∧ ((¬ (M232 0 20) ≤ x231) → ok_R_cycle M232 ∧ (∀ M235 : Mem, M235 = f_R_cycle_m M232 → ∀ x236 : Int32, x236 = x231 + (1 : Int32) → (ok_R_run_l2 x214 x215 K1_ok n) x236 M235)))) ∧ Q ((if (M232 0 20) ≤ x231 then let x233 : Int32 := (x214 + (M232 0 20)); let x234 : Int32 := x215 + (1 : Int32); (K1_v x233 x234 M232) else let M235 : Mem := f_R_cycle_m M232; let x236 : Int32 := x231 + (1 : Int32); ((f_R_run_l2_v x214 x215 K1_v n) x236 M235))) ((if (M232 0 20) ≤ x231 then let x233 : Int32 := (x214 + (M232 0 20)); let x234 : Int32 := x215 + (1 : Int32); (K1_m x233 x234 M232) else let M235 : Mem := f_R_cycle_m M232; let x236 : Int32 := x231 + (1 : Int32); ((f_R_run_l2_m x214 x215 K1_m n) x236 M235)))
    (try dsimp only)
    by_cases hc2 : (M232 0 20) ≤ x231
    · skip
      refine ps_brp hc2 ?_
      (try simp only [if_pos hc2])
      refine ps_let ?_
      generalize e_x233 : (x214 + (M232 0 20)) = x233
      refine ps_let ?_
      generalize e_x234 : x215 + (1 : Int32) = x234
      have a_x234 : x234.toInt = x215.toInt + 1 := by rw [← e_x234, ti_add (by (try simp only [ti_le, ti_lt, Int32.reduceToInt] at *) <;> omega) (by (try simp only [ti_le, ti_lt, Int32.reduceToInt] at *) <;> omega)]; rfl
      exact hK1 x233 x234 M232 s_M232 (by first | assumption | decide | ((try simp only [ti_le, ti_lt, ti_eq, Int32.reduceToInt] at *) <;> omega)) (by first | assumption | decide | ((try simp only [ti_le, ti_lt, ti_eq, Int32.reduceToInt] at *) <;> omega)) (by first | assumption | decide | ((try simp only [ti_le, ti_lt, ti_eq, Int32.reduceToInt] at *) <;> omega))
    · skip
      refine ps_brn hc2 ?_
      (try simp only [if_neg hc2])
      have t_ := so_R_cycle (d := d) (ρ := ρ) M232 s_M232 
      refine ps_and t_.1 ?_
      replace t_ := t_.2
      refine ps_let ?_
      generalize e_M235 : f_R_cycle_m M232 = M235 at t_ ⊢
      have w_M235 : M235 0 20 = M232 0 20 := by rw [← e_M235]; exact cy_cost _
      have s_M235 := t_
      refine ps_let ?_
      generalize e_x236 : x231 + (1 : Int32) = x236
      have b_x236 := any_rng (M232 0 20)
      have a_x236 : x236.toInt = x231.toInt + 1 := by rw [← e_x236, ti_add (by (try simp only [ti_le, ti_lt, Int32.reduceToInt] at *) <;> omega) (by (try simp only [ti_le, ti_lt, Int32.reduceToInt] at *) <;> omega)]; rfl
      exact hK2 x236 M235 s_M235 (by first | assumption | decide | ((try simp only [ti_le, ti_lt, ti_eq, Int32.reduceToInt] at *) <;> omega)) (by rw [w_M235]; (try simp only [ti_le, ti_lt, Int32.reduceToInt] at *) <;> omega) (by first | assumption | decide | ((try simp only [ti_le, ti_lt, ti_eq, Int32.reduceToInt] at *) <;> omega))
set_option maxRecDepth 100000 in
set_option maxHeartbeats 4000000 in
theorem so_R_run_j4 {d : Int32} {ρ : Nat → Int32} {Q : Int32 → Mem → Prop} (x214 : Int32) (x215 : Int32) (M218 : Mem) (n : Nat) (K1_v : Int32 → Int32 → Mem → Int32) (K1_m : Int32 → Int32 → Mem → Mem) (K1_ok : Int32 → Int32 → Mem → Prop) (x228 : Int32) (s_M218 : SR d ρ M218) (hp0 : 0 ≤ (x215).toInt) (hp1 : (x215).toInt < 100) (hp2 : 100 < (x215).toInt + (n + 1)) (hK1 : ∀ (z0 : Int32) (z1 : Int32) (z2 : Mem), SR d ρ z2 → 0 ≤ (z1).toInt → (z1).toInt ≤ 100 → 100 < (z1).toInt + n → K1_ok z0 z1 z2 ∧ Q (K1_v z0 z1 z2) (K1_m z0 z1 z2)) (hQ : ∀ (x : Int32) (M' : Mem), SR d ρ M' → Q x M') : ok_R_run_j4 x214 x215 M218 K1_ok x228 ∧ Q (f_R_run_j4_v x214 x215 M218 K1_v x228) (f_R_run_j4_m x214 x215 M218 K1_m x228) := by
  unfold ok_R_run_j4 f_R_run_j4_v f_R_run_j4_m
  (try dsimp only)
  have t_ := so_R_fails (d := d) (ρ := ρ) M218 x228 (3 : Int32) s_M218 (by decide)
  refine ps_and t_.1 ?_
  replace t_ := t_.2
  refine ps_let ?_
  refine ps_let ?_
  generalize e_x229 : f_R_fails_v M218 x228 (3 : Int32) = x229 at t_ ⊢
  generalize e_M230 : f_R_fails_m M218 x228 (3 : Int32) = M230 at t_ ⊢
  obtain ⟨s_M230, q0_x229⟩ := t_
  by_cases hc1 : x229 = 0
  · skip
    refine ps_brp hc1 ?_
    (try simp only [if_pos hc1])
    exact so_R_run_l2 (d := d) (ρ := ρ) x214 x215 n _ _ _ (by first | assumption | decide | ((try simp only [ti_le, ti_lt, ti_eq, Int32.reduceToInt] at *) <;> omega)) (by first | assumption | decide | ((try simp only [ti_le, ti_lt, ti_eq, Int32.reduceToInt] at *) <;> omega)) (by have h9 : (M230 0 20).toNatClampNeg = (M230 0 20).toInt.toNat := rfl; (try simp only [Int32.reduceToInt]); omega) hK1 hQ ((M230 0 20).toNatClampNeg + 1) (0 : Int32) M230 s_M230 (by first | assumption | decide | ((try simp only [ti_le, ti_lt, ti_eq, Int32.reduceToInt] at *) <;> omega)) (by have h9 : (M230 0 20).toNatClampNeg = (M230 0 20).toInt.toNat := rfl; (try simp only [Int32.reduceToInt]); omega) (by have h9 : (M230 0 20).toNatClampNeg = (M230 0 20).toInt.toNat := rfl; (try simp only [Int32.reduceToInt]); omega)
  · skip
    refine ps_brn hc1 ?_
    refine And.intro trivial ?_
    (try simp only [if_neg hc1])
    exact hQ _ _ s_M230
set_option maxRecDepth 100000 in
set_option maxHeartbeats 4000000 in
theorem so_R_run_l1 {d : Int32} {ρ : Nat → Int32} {Q : Int32 → Mem → Prop} (a1 : Int32) (hq0 : (a1).toInt ≤ 100) (hQ : ∀ (x : Int32) (M' : Mem), SR d ρ M' → Q x M') : ∀ (n : Nat) (x214 : Int32) (x215 : Int32) (M216 : Mem), SR d ρ M216 → 0 ≤ (x215).toInt → (x215).toInt ≤ 100 → 100 < (x215).toInt + n → ok_R_run_l1 a1 n x214 x215 M216 ∧ Q (f_R_run_l1_v a1 n x214 x215 M216) (f_R_run_l1_m a1 n x214 x215 M216) := by
  intro n
  induction n with
  | zero =>
    intro x214 x215 M216 s_M216 hL0 hL1 hL2
    exact False.elim (by (try simp only [ti_le, ti_lt, Int32.reduceToInt] at *) <;> omega)
  | succ n ih =>
    intro x214 x215 M216 s_M216 hL0 hL1 hL2
    have hK1 := ih
    show ((((a1 ≤ x215) → True) ∧ ((¬ a1 ≤ x215) → ok_R_step M216 ∧ (∀ x217 : Int32, x217 = f_R_step_v M216 → ∀ M218 : Mem, M218 = f_R_step_m M216 → (((¬ x217 = 0) → ok_R_run_j4 x214 x215 M218 (ok_R_run_l1 a1 n) (0 : Int32)) ∧ ((x217 = 0) → ok_R_run_j4 x214 x215 M218 (ok_R_run_l1 a1 n) (1 : Int32))))))) ∧ Q ((if a1 ≤ x215 then x214 else let x217 : Int32 := f_R_step_v M216; let M218 : Mem := f_R_step_m M216; (if x217 = 0 then (f_R_run_j4_v x214 x215 M218 (f_R_run_l1_v a1 n) (1 : Int32)) else (f_R_run_j4_v x214 x215 M218 (f_R_run_l1_v a1 n) (0 : Int32))))) ((if a1 ≤ x215 then M216 else let x217 : Int32 := f_R_step_v M216; let M218 : Mem := f_R_step_m M216; (if x217 = 0 then (f_R_run_j4_m x214 x215 M218 (f_R_run_l1_m a1 n) (1 : Int32)) else (f_R_run_j4_m x214 x215 M218 (f_R_run_l1_m a1 n) (0 : Int32)))))
    (try dsimp only)
    by_cases hc2 : a1 ≤ x215
    · skip
      refine ps_brp hc2 ?_
      refine And.intro trivial ?_
      (try simp only [if_pos hc2])
      exact hQ _ _ s_M216
    · skip
      refine ps_brn hc2 ?_
      (try simp only [if_neg hc2])
      have t_ := so_R_step (d := d) (ρ := ρ) M216 s_M216 
      refine ps_and t_.1 ?_
      replace t_ := t_.2
      refine ps_let ?_
      refine ps_let ?_
      generalize e_x217 : f_R_step_v M216 = x217 at t_ ⊢
      generalize e_M218 : f_R_step_m M216 = M218 at t_ ⊢
      have s_M218 := t_
      by_cases hc3 : x217 = 0
      · skip
        refine ps_nrp hc3 ?_
        (try simp only [if_pos hc3])
        exact so_R_run_j4 (d := d) (ρ := ρ) x214 x215 M218 n _ _ _ (1 : Int32) s_M218 (by first | assumption | decide | ((try simp only [ti_le, ti_lt, ti_eq, Int32.reduceToInt] at *) <;> omega)) (by first | assumption | decide | ((try simp only [ti_le, ti_lt, ti_eq, Int32.reduceToInt] at *) <;> omega)) (by first | assumption | decide | ((try simp only [ti_le, ti_lt, ti_eq, Int32.reduceToInt] at *) <;> omega)) hK1 hQ
      · skip
        refine ps_nrn hc3 ?_
        (try simp only [if_neg hc3])
        exact so_R_run_j4 (d := d) (ρ := ρ) x214 x215 M218 n _ _ _ (0 : Int32) s_M218 (by first | assumption | decide | ((try simp only [ti_le, ti_lt, ti_eq, Int32.reduceToInt] at *) <;> omega)) (by first | assumption | decide | ((try simp only [ti_le, ti_lt, ti_eq, Int32.reduceToInt] at *) <;> omega)) (by first | assumption | decide | ((try simp only [ti_le, ti_lt, ti_eq, Int32.reduceToInt] at *) <;> omega)) hK1 hQ
set_option maxRecDepth 100000 in
set_option maxHeartbeats 4000000 in
theorem so_R_write_l1 {d : Int32} {ρ : Nat → Int32} {Q : Int32 → Mem → Prop} (a1 : Int32) (a2 : Int32) (a3 : Int64) (hq0 : 0 ≤ (a1).toInt) (hq1 : (a1).toInt + (a2).toInt ≤ 65536) (hq2 : (a2).toInt ≤ 8) (hQ : ∀ (x : Int32) (M' : Mem), SR d ρ M' → Q x M') : ∀ (n : Nat) (x69 : Int32) (M70 : Mem), SR d ρ M70 → 0 ≤ (x69).toInt → (x69).toInt ≤ 8 → 8 < (x69).toInt + n → ok_R_write_l1 a1 a2 a3 n x69 M70 ∧ Q (f_R_write_l1_v a1 a2 a3 n x69 M70) (f_R_write_l1_m a1 a2 a3 n x69 M70) := by
  intro n
  induction n with
  | zero =>
    intro x69 M70 s_M70 hL0 hL1 hL2
    exact False.elim (by (try simp only [ti_le, ti_lt, Int32.reduceToInt] at *) <;> omega)
  | succ n ih =>
    intro x69 M70 s_M70 hL0 hL1 hL2
    have hK1 := ih
    show ((((a2 ≤ x69) → True) ∧ ((¬ a2 ≤ x69) → ok_R_put M70 (a1 + x69) (((a3.toUInt64 >>> (((8 : Int32) * x69).toInt64.toUInt64 &&& Int64.toUInt64 63)).toInt64 &&& (255 : Int64)).toInt32) ∧ (∀ M71 : Mem, M71 = f_R_put_m M70 (a1 + x69) (((a3.toUInt64 >>> (((8 : Int32) * x69).toInt64.toUInt64 &&& Int64.toUInt64 63)).toInt64 &&& (255 : Int64)).toInt32) → ∀ x72 : Int32, x72 = x69 + (1 : Int32) → (ok_R_write_l1 a1 a2 a3 n) x72 M71)))) ∧ Q ((if a2 ≤ x69 then a2 else let M71 : Mem := f_R_put_m M70 (a1 + x69) (((a3.toUInt64 >>> (((8 : Int32) * x69).toInt64.toUInt64 &&& Int64.toUInt64 63)).toInt64 &&& (255 : Int64)).toInt32); let x72 : Int32 := x69 + (1 : Int32); ((f_R_write_l1_v a1 a2 a3 n) x72 M71))) ((if a2 ≤ x69 then M70 else let M71 : Mem := f_R_put_m M70 (a1 + x69) (((a3.toUInt64 >>> (((8 : Int32) * x69).toInt64.toUInt64 &&& Int64.toUInt64 63)).toInt64 &&& (255 : Int64)).toInt32); let x72 : Int32 := x69 + (1 : Int32); ((f_R_write_l1_m a1 a2 a3 n) x72 M71)))
    (try dsimp only)
    by_cases hc2 : a2 ≤ x69
    · skip
      refine ps_brp hc2 ?_
      refine And.intro trivial ?_
      (try simp only [if_pos hc2])
      exact hQ _ _ s_M70
    · skip
      refine ps_brn hc2 ?_
      (try simp only [if_neg hc2])
      have t_ := so_R_put (d := d) (ρ := ρ) M70 (a1 + x69) (((a3.toUInt64 >>> (((8 : Int32) * x69).toInt64.toUInt64 &&& Int64.toUInt64 63)).toInt64 &&& (255 : Int64)).toInt32) s_M70 (by rw [ti_add (by (try simp only [ti_le, ti_lt, Int32.reduceToInt] at *) <;> omega) (by (try simp only [ti_le, ti_lt, Int32.reduceToInt] at *) <;> omega)]; constructor <;> ((try simp only [ti_le, ti_lt, Int32.reduceToInt] at *) <;> omega)) (by first | assumption | exact l255)
      refine ps_and t_.1 ?_
      replace t_ := t_.2
      refine ps_let ?_
      generalize e_M71 : f_R_put_m M70 (a1 + x69) (((a3.toUInt64 >>> (((8 : Int32) * x69).toInt64.toUInt64 &&& Int64.toUInt64 63)).toInt64 &&& (255 : Int64)).toInt32) = M71 at t_ ⊢
      have s_M71 := t_
      refine ps_let ?_
      generalize e_x72 : x69 + (1 : Int32) = x72
      have a_x72 : x72.toInt = x69.toInt + 1 := by rw [← e_x72, ti_add (by (try simp only [ti_le, ti_lt, Int32.reduceToInt] at *) <;> omega) (by (try simp only [ti_le, ti_lt, Int32.reduceToInt] at *) <;> omega)]; rfl
      exact hK1 x72 M71 s_M71 (by first | assumption | decide | ((try simp only [ti_le, ti_lt, ti_eq, Int32.reduceToInt] at *) <;> omega)) (by first | assumption | decide | ((try simp only [ti_le, ti_lt, ti_eq, Int32.reduceToInt] at *) <;> omega)) (by first | assumption | decide | ((try simp only [ti_le, ti_lt, ti_eq, Int32.reduceToInt] at *) <;> omega))
set_option maxRecDepth 100000 in
set_option maxHeartbeats 4000000 in
theorem sq_R_dots {d : Int32} {ρ : Nat → Int32} {Q : Int32 → Prop} (M0 : Mem) (a1 : Int32) (a2 : Int32) (s_M0 : SR d ρ M0) (hp0 : 32768 ≤ (a1).toInt ∧ (a1).toInt < 40959) (hQ : ∀ (x : Int32), Q x) : ok_R_dots M0 a1 a2 ∧ Q (f_R_dots_v M0 a1 a2) := by
  unfold ok_R_dots f_R_dots_v
  (try dsimp only)
  refine ps_and (by rw [vp_iff, ti_sub (by (try simp only [ti_le, ti_lt, ti_eq, Int32.reduceToInt] at *) <;> omega) (by (try simp only [ti_le, ti_lt, ti_eq, Int32.reduceToInt] at *) <;> omega)]; constructor <;> ((try simp only [ti_le, ti_lt, ti_eq, Int32.reduceToInt] at *) <;> omega)) ?_
  refine And.intro (by rw [vp_iff, ti_sub (by (try simp only [ti_le, ti_lt, ti_eq, Int32.reduceToInt] at *) <;> omega) (by (try simp only [ti_le, ti_lt, ti_eq, Int32.reduceToInt] at *) <;> omega)]; constructor <;> ((try simp only [ti_le, ti_lt, ti_eq, Int32.reduceToInt] at *) <;> omega)) ?_
  exact hQ _
theorem so_R_dots {d : Int32} {ρ : Nat → Int32} (M0 : Mem) (a1 : Int32) (a2 : Int32) (s_M0 : SR d ρ M0) (hp0 : 32768 ≤ (a1).toInt ∧ (a1).toInt < 40959) : ok_R_dots M0 a1 a2 ∧ True := sq_R_dots (d := d) (ρ := ρ) (Q := fun _ => True) M0 a1 a2 s_M0 hp0 (fun _ => trivial)
set_option maxRecDepth 100000 in
set_option maxHeartbeats 4000000 in
theorem so_R_background_j6 {d : Int32} {ρ : Nat → Int32} {Q : Int32 → Prop} (M0 : Mem) (x216 : Int32) (x252 : Int32) (x284 : Int32) (s_M0 : SR d ρ M0) (hp0 : 32768 ≤ (x284).toInt ∧ (x284).toInt ≤ 38896) (hQ : ∀ (x : Int32), Q x) : ok_R_background_j6 M0 x216 x252 x284 ∧ Q (f_R_background_j6_v M0 x216 x252 x284) := by
  unfold ok_R_background_j6 f_R_background_j6_v
  (try dsimp only)
  have t_ := so_R_dots (d := d) (ρ := ρ) M0 (x284 + ((2 : Int32) * (x252 &&& (7 : Int32)))) (x216 &&& (7 : Int32)) s_M0 (by exact dots_in _ (by assumption))
  refine And.intro t_.1 ?_
  replace t_ := t_.2
  generalize e_x285 : f_R_dots_v M0 (x284 + ((2 : Int32) * (x252 &&& (7 : Int32)))) (x216 &&& (7 : Int32)) = x285 at t_ ⊢
  exact hQ _
set_option maxRecDepth 100000 in
set_option maxHeartbeats 4000000 in
theorem so_R_background_j5 {d : Int32} {ρ : Nat → Int32} {Q : Int32 → Prop} (M0 : Mem) (x216 : Int32) (x252 : Int32) (x279 : Int32) (s_M0 : SR d ρ M0) (hp0 : 0 ≤ (x216).toInt ∧ (x216).toInt < 256) (hp1 : 0 ≤ (x252).toInt ∧ (x252).toInt < 256) (hp2 : 38912 ≤ (x279).toInt ∧ (x279).toInt ≤ 39936) (hQ : ∀ (x : Int32), Q x) : ok_R_background_j5 M0 x216 x252 x279 ∧ Q (f_R_background_j5_v M0 x216 x252 x279) := by
  unfold ok_R_background_j5 f_R_background_j5_v
  (try dsimp only)
  refine ps_and (by exact bg_in (by assumption) (by assumption) (by assumption)) ?_
  refine ps_let ?_
  generalize e_x280 : (M0 3 ((((x279 + ((32 : Int32) * (x252 / (8 : Int32)))) + (x216 / (8 : Int32))) - (32768 : Int32))).toNatClampNeg) = x280
  have q0_x280 : 0 ≤ (x280).toInt ∧ (x280).toInt < 256 := by rw [← e_x280]; exact s_M0.a (by decide)
  by_cases hc1 : ((M0 0 33) &&& (16 : Int32)) ≤ 0
  · skip
    refine ps_brp hc1 ?_
    (try simp only [if_pos hc1])
    have t_ := so_R_signed (d := d) (ρ := ρ) M0 x280 s_M0 (by first | assumption | decide | (constructor <;> ((try simp only [ti_le, ti_lt, ti_eq, Int32.reduceToInt] at *) <;> omega)))
    refine ps_let ?_
    generalize e_x286 : f_R_signed_v M0 x280 = x286 at t_ ⊢
    have q0_x286 := t_
    exact so_R_background_j6 (d := d) (ρ := ρ) M0 x216 x252 ((36864 : Int32) + ((16 : Int32) * x286)) s_M0 (by exact tile_a (by assumption)) hQ
  · skip
    refine ps_brn hc1 ?_
    (try simp only [if_neg hc1])
    exact so_R_background_j6 (d := d) (ρ := ρ) M0 x216 x252 ((32768 : Int32) + ((16 : Int32) * x280)) s_M0 (by exact tile_b (by assumption)) hQ
set_option maxRecDepth 100000 in
set_option maxHeartbeats 4000000 in
theorem so_R_background_j4 {d : Int32} {ρ : Nat → Int32} {Q : Int32 → Prop} (M0 : Mem) (x216 : Int32) (x252 : Int32) (x270 : Int32) (s_M0 : SR d ρ M0) (hp0 : 0 ≤ (x216).toInt ∧ (x216).toInt < 256) (hp1 : 0 ≤ (x252).toInt ∧ (x252).toInt < 256) (hQ : ∀ (x : Int32), Q x) : ok_R_background_j4 M0 x216 x252 x270 ∧ Q (f_R_background_j4_v M0 x216 x252 x270) := by
  unfold ok_R_background_j4 f_R_background_j4_v
  (try dsimp only)
  by_cases hc1 : ((M0 0 33) &&& x270) ≤ 0
  · skip
    refine ps_brp hc1 ?_
    (try simp only [if_pos hc1])
    exact so_R_background_j5 (d := d) (ρ := ρ) M0 x216 x252 (38912 : Int32) s_M0 (by first | assumption | decide | (constructor <;> ((try simp only [ti_le, ti_lt, ti_eq, Int32.reduceToInt] at *) <;> omega))) (by first | assumption | decide | (constructor <;> ((try simp only [ti_le, ti_lt, ti_eq, Int32.reduceToInt] at *) <;> omega))) (by first | assumption | decide | ((try simp only [ti_le, ti_lt, ti_eq, Int32.reduceToInt] at *) <;> omega)) hQ
  · skip
    refine ps_brn hc1 ?_
    (try simp only [if_neg hc1])
    exact so_R_background_j5 (d := d) (ρ := ρ) M0 x216 x252 (39936 : Int32) s_M0 (by first | assumption | decide | (constructor <;> ((try simp only [ti_le, ti_lt, ti_eq, Int32.reduceToInt] at *) <;> omega))) (by first | assumption | decide | (constructor <;> ((try simp only [ti_le, ti_lt, ti_eq, Int32.reduceToInt] at *) <;> omega))) (by first | assumption | decide | ((try simp only [ti_le, ti_lt, ti_eq, Int32.reduceToInt] at *) <;> omega)) hQ
set_option maxRecDepth 100000 in
set_option maxHeartbeats 4000000 in
theorem so_R_background_j3 {d : Int32} {ρ : Nat → Int32} {Q : Int32 → Prop} (M0 : Mem) (x144 : Int32) (x216 : Int32) (x252 : Int32) (s_M0 : SR d ρ M0) (hp0 : 0 ≤ (x216).toInt ∧ (x216).toInt < 256) (hp1 : 0 ≤ (x252).toInt ∧ (x252).toInt < 256) (hQ : ∀ (x : Int32), Q x) : ok_R_background_j3 M0 x144 x216 x252 ∧ Q (f_R_background_j3_v M0 x144 x216 x252) := by
  unfold ok_R_background_j3 f_R_background_j3_v
  (try dsimp only)
  by_cases hc1 : x144 = 0
  · skip
    refine ps_brp hc1 ?_
    (try simp only [if_pos hc1])
    exact so_R_background_j4 (d := d) (ρ := ρ) M0 x216 x252 (8 : Int32) s_M0 (by first | assumption | decide | (constructor <;> ((try simp only [ti_le, ti_lt, ti_eq, Int32.reduceToInt] at *) <;> omega))) (by first | assumption | decide | (constructor <;> ((try simp only [ti_le, ti_lt, ti_eq, Int32.reduceToInt] at *) <;> omega))) hQ
  · skip
    refine ps_brn hc1 ?_
    (try simp only [if_neg hc1])
    exact so_R_background_j4 (d := d) (ρ := ρ) M0 x216 x252 (64 : Int32) s_M0 (by first | assumption | decide | (constructor <;> ((try simp only [ti_le, ti_lt, ti_eq, Int32.reduceToInt] at *) <;> omega))) (by first | assumption | decide | (constructor <;> ((try simp only [ti_le, ti_lt, ti_eq, Int32.reduceToInt] at *) <;> omega))) hQ
set_option maxRecDepth 100000 in
set_option maxHeartbeats 4000000 in
theorem so_R_background_j2 {d : Int32} {ρ : Nat → Int32} {Q : Int32 → Prop} (M0 : Mem) (a2 : Int32) (x144 : Int32) (x216 : Int32) (s_M0 : SR d ρ M0) (hp0 : 0 ≤ (a2).toInt ∧ (a2).toInt < 144) (hp1 : 0 ≤ (x216).toInt ∧ (x216).toInt < 256) (hp2 : (x144) = 0 ∨ ((M0 0 43).toInt ≤ (a2).toInt)) (hQ : ∀ (x : Int32), Q x) : ok_R_background_j2 M0 a2 x144 x216 ∧ Q (f_R_background_j2_v M0 a2 x144 x216) := by
  unfold ok_R_background_j2 f_R_background_j2_v
  (try dsimp only)
  by_cases hc1 : x144 = 0
  · skip
    refine ps_brp hc1 ?_
    (try simp only [if_pos hc1])
    exact so_R_background_j3 (d := d) (ρ := ρ) M0 x144 x216 ((a2 + (M0 0 35)) &&& (255 : Int32)) s_M0 (by first | assumption | decide | (constructor <;> ((try simp only [ti_le, ti_lt, ti_eq, Int32.reduceToInt] at *) <;> omega))) (by first | assumption | exact and_lt (by decide)) hQ
  · skip
    refine ps_brn hc1 ?_
    (try simp only [if_neg hc1])
    exact so_R_background_j3 (d := d) (ρ := ρ) M0 x144 x216 (a2 - (M0 0 43)) s_M0 (by first | assumption | decide | (constructor <;> ((try simp only [ti_le, ti_lt, ti_eq, Int32.reduceToInt] at *) <;> omega))) (by rcases hp2 with h9 | h9; exact absurd h9 (by assumption); exact win_y (by assumption) (s_M0.f 43) h9) hQ
set_option maxRecDepth 100000 in
set_option maxHeartbeats 4000000 in
theorem so_R_background_j1 {d : Int32} {ρ : Nat → Int32} {Q : Int32 → Prop} (M0 : Mem) (a1 : Int32) (a2 : Int32) (x144 : Int32) (s_M0 : SR d ρ M0) (hp0 : 0 ≤ (a1).toInt ∧ (a1).toInt < 160) (hp1 : 0 ≤ (a2).toInt ∧ (a2).toInt < 144) (hp2 : (x144) = 0 ∨ ((M0 0 43).toInt ≤ (a2).toInt ∧ (M0 0 44).toInt ≤ (a1).toInt + 7)) (hQ : ∀ (x : Int32), Q x) : ok_R_background_j1 M0 a1 a2 x144 ∧ Q (f_R_background_j1_v M0 a1 a2 x144) := by
  unfold ok_R_background_j1 f_R_background_j1_v
  (try dsimp only)
  by_cases hc1 : x144 = 0
  · skip
    refine ps_brp hc1 ?_
    (try simp only [if_pos hc1])
    exact so_R_background_j2 (d := d) (ρ := ρ) M0 a2 x144 ((a1 + (M0 0 36)) &&& (255 : Int32)) s_M0 (by first | assumption | decide | (constructor <;> ((try simp only [ti_le, ti_lt, ti_eq, Int32.reduceToInt] at *) <;> omega))) (by first | assumption | exact and_lt (by decide)) (by rcases hp2 with h9 | h9; exact Or.inl h9; exact Or.inr h9.1) hQ
  · skip
    refine ps_brn hc1 ?_
    (try simp only [if_neg hc1])
    exact so_R_background_j2 (d := d) (ρ := ρ) M0 a2 x144 ((a1 + (7 : Int32)) - (M0 0 44)) s_M0 (by first | assumption | decide | (constructor <;> ((try simp only [ti_le, ti_lt, ti_eq, Int32.reduceToInt] at *) <;> omega))) (by rcases hp2 with h9 | h9; exact absurd h9 (by assumption); exact win_x (by assumption) (s_M0.f 44) h9.2) (by rcases hp2 with h9 | h9; exact Or.inl h9; exact Or.inr h9.1) hQ
set_option maxRecDepth 100000 in
set_option maxHeartbeats 4000000 in
theorem so_R_background_j7 {d : Int32} {ρ : Nat → Int32} {Q : Int32 → Prop} (M0 : Mem) (a1 : Int32) (a2 : Int32) (s_M0 : SR d ρ M0) (hp0 : 0 ≤ (a1).toInt ∧ (a1).toInt < 160) (hp1 : 0 ≤ (a2).toInt ∧ (a2).toInt < 144) (hQ : ∀ (x : Int32), Q x) : ok_R_background_j7 M0 a1 a2 ∧ Q (f_R_background_j7_v M0 a1 a2) := by
  unfold ok_R_background_j7 f_R_background_j7_v
  (try dsimp only)
  exact so_R_background_j1 (d := d) (ρ := ρ) M0 a1 a2 (0 : Int32) s_M0 (by first | assumption | decide | (constructor <;> ((try simp only [ti_le, ti_lt, ti_eq, Int32.reduceToInt] at *) <;> omega))) (by first | assumption | decide | (constructor <;> ((try simp only [ti_le, ti_lt, ti_eq, Int32.reduceToInt] at *) <;> omega))) (by exact Or.inl rfl) hQ
set_option maxRecDepth 100000 in
set_option maxHeartbeats 4000000 in
theorem sq_R_background {d : Int32} {ρ : Nat → Int32} {Q : Int32 → Prop} (M0 : Mem) (a1 : Int32) (a2 : Int32) (s_M0 : SR d ρ M0) (hp0 : 0 ≤ (a1).toInt ∧ (a1).toInt < 160) (hp1 : 0 ≤ (a2).toInt ∧ (a2).toInt < 144) (hQ : ∀ (x : Int32), Q x) : ok_R_background M0 a1 a2 ∧ Q (f_R_background_v M0 a1 a2) := by
  unfold ok_R_background f_R_background_v
  (try dsimp only)
  by_cases hc1 : ((M0 0 33) &&& (1 : Int32)) = 0
  · skip
    refine ps_nrp hc1 ?_
    refine And.intro trivial ?_
    (try simp only [if_pos hc1])
    exact hQ _
  · skip
    refine ps_nrn hc1 ?_
    (try simp only [if_neg hc1])
    by_cases hc2 : ((M0 0 33) &&& (32 : Int32)) ≤ 0
    · skip
      refine ps_brp hc2 ?_
      (try simp only [if_pos hc2])
      exact so_R_background_j7 (d := d) (ρ := ρ) M0 a1 a2 s_M0 (by first | assumption | decide | (constructor <;> ((try simp only [ti_le, ti_lt, ti_eq, Int32.reduceToInt] at *) <;> omega))) (by first | assumption | decide | (constructor <;> ((try simp only [ti_le, ti_lt, ti_eq, Int32.reduceToInt] at *) <;> omega))) hQ
    · skip
      refine ps_brn hc2 ?_
      (try simp only [if_neg hc2])
      by_cases hc3 : a2 < (M0 0 43)
      · skip
        refine ps_brp hc3 ?_
        (try simp only [if_pos hc3])
        exact so_R_background_j7 (d := d) (ρ := ρ) M0 a1 a2 s_M0 (by first | assumption | decide | (constructor <;> ((try simp only [ti_le, ti_lt, ti_eq, Int32.reduceToInt] at *) <;> omega))) (by first | assumption | decide | (constructor <;> ((try simp only [ti_le, ti_lt, ti_eq, Int32.reduceToInt] at *) <;> omega))) hQ
      · skip
        refine ps_brn hc3 ?_
        (try simp only [if_neg hc3])
        by_cases hc4 : (a1 + (7 : Int32)) < (M0 0 44)
        · skip
          refine ps_brp hc4 ?_
          (try simp only [if_pos hc4])
          exact so_R_background_j7 (d := d) (ρ := ρ) M0 a1 a2 s_M0 (by first | assumption | decide | (constructor <;> ((try simp only [ti_le, ti_lt, ti_eq, Int32.reduceToInt] at *) <;> omega))) (by first | assumption | decide | (constructor <;> ((try simp only [ti_le, ti_lt, ti_eq, Int32.reduceToInt] at *) <;> omega))) hQ
        · skip
          refine ps_brn hc4 ?_
          (try simp only [if_neg hc4])
          exact so_R_background_j1 (d := d) (ρ := ρ) M0 a1 a2 (1 : Int32) s_M0 (by first | assumption | decide | (constructor <;> ((try simp only [ti_le, ti_lt, ti_eq, Int32.reduceToInt] at *) <;> omega))) (by first | assumption | decide | (constructor <;> ((try simp only [ti_le, ti_lt, ti_eq, Int32.reduceToInt] at *) <;> omega))) (by exact Or.inr ⟨by (try simp only [ti_le, ti_lt, Int32.reduceToInt] at *) <;> omega, x7 (by assumption) (by assumption)⟩) hQ
theorem so_R_background {d : Int32} {ρ : Nat → Int32} (M0 : Mem) (a1 : Int32) (a2 : Int32) (s_M0 : SR d ρ M0) (hp0 : 0 ≤ (a1).toInt ∧ (a1).toInt < 160) (hp1 : 0 ≤ (a2).toInt ∧ (a2).toInt < 144) : ok_R_background M0 a1 a2 ∧ True := sq_R_background (d := d) (ρ := ρ) (Q := fun _ => True) M0 a1 a2 s_M0 hp0 hp1 (fun _ => trivial)
set_option maxRecDepth 100000 in
set_option maxHeartbeats 4000000 in
theorem so_R_number_j3 {d : Int32} {ρ : Nat → Int32} {Q : Int32 → Prop} (M0 : Mem) (x13 : Int32) (x19 : Int32) (x22 : Int32) (s_M0 : SR d ρ M0) (hp0 : 0 ≤ (x13).toInt ∧ (x13).toInt < 256) (hp1 : 0 ≤ (x19).toInt ∧ (x19).toInt < 16) (hQ : ∀ (x : Int32), Q x) : ok_R_number_j3 M0 x13 x19 x22 ∧ Q (f_R_number_j3_v M0 x13 x19 x22) := by
  unfold ok_R_number_j3 f_R_number_j3_v
  (try dsimp only)
  have t_ := so_R_dots (d := d) (ρ := ρ) M0 (((32768 : Int32) + ((16 : Int32) * x13)) + ((2 : Int32) * x19)) x22 s_M0 (by exact num_in (by assumption) (by assumption))
  refine And.intro t_.1 ?_
  replace t_ := t_.2
  generalize e_x23 : f_R_dots_v M0 (((32768 : Int32) + ((16 : Int32) * x13)) + ((2 : Int32) * x19)) x22 = x23 at t_ ⊢
  exact hQ _
set_option maxRecDepth 100000 in
set_option maxHeartbeats 4000000 in
theorem so_R_number_j2 {d : Int32} {ρ : Nat → Int32} {Q : Int32 → Prop} (M0 : Mem) (a3 : Int32) (x1 : Int32) (x13 : Int32) (x19 : Int32) (s_M0 : SR d ρ M0) (hp0 : 0 ≤ (x13).toInt ∧ (x13).toInt < 256) (hp1 : 0 ≤ (x19).toInt ∧ (x19).toInt < 16) (hQ : ∀ (x : Int32), Q x) : ok_R_number_j2 M0 a3 x1 x13 x19 ∧ Q (f_R_number_j2_v M0 a3 x1 x13 x19) := by
  unfold ok_R_number_j2 f_R_number_j2_v
  (try dsimp only)
  by_cases hc1 : (x1 &&& (32 : Int32)) ≤ 0
  · skip
    refine ps_brp hc1 ?_
    (try simp only [if_pos hc1])
    exact so_R_number_j3 (d := d) (ρ := ρ) M0 x13 x19 a3 s_M0 (by first | assumption | decide | (constructor <;> ((try simp only [ti_le, ti_lt, ti_eq, Int32.reduceToInt] at *) <;> omega))) (by first | assumption | decide | (constructor <;> ((try simp only [ti_le, ti_lt, ti_eq, Int32.reduceToInt] at *) <;> omega))) hQ
  · skip
    refine ps_brn hc1 ?_
    (try simp only [if_neg hc1])
    exact so_R_number_j3 (d := d) (ρ := ρ) M0 x13 x19 ((7 : Int32) - a3) s_M0 (by first | assumption | decide | (constructor <;> ((try simp only [ti_le, ti_lt, ti_eq, Int32.reduceToInt] at *) <;> omega))) (by first | assumption | decide | (constructor <;> ((try simp only [ti_le, ti_lt, ti_eq, Int32.reduceToInt] at *) <;> omega))) hQ
set_option maxRecDepth 100000 in
set_option maxHeartbeats 4000000 in
theorem so_R_number_j1 {d : Int32} {ρ : Nat → Int32} {Q : Int32 → Prop} (M0 : Mem) (a2 : Int32) (a3 : Int32) (a4 : Int32) (x1 : Int32) (x13 : Int32) (s_M0 : SR d ρ M0) (hp0 : 0 ≤ (a2).toInt) (hp1 : (a2).toInt < (a4).toInt) (hp2 : (a4).toInt ≤ 16) (hp3 : 0 ≤ (x13).toInt ∧ (x13).toInt < 256) (hQ : ∀ (x : Int32), Q x) : ok_R_number_j1 M0 a2 a3 a4 x1 x13 ∧ Q (f_R_number_j1_v M0 a2 a3 a4 x1 x13) := by
  unfold ok_R_number_j1 f_R_number_j1_v
  (try dsimp only)
  by_cases hc1 : (x1 &&& (64 : Int32)) ≤ 0
  · skip
    refine ps_brp hc1 ?_
    (try simp only [if_pos hc1])
    exact so_R_number_j2 (d := d) (ρ := ρ) M0 a3 x1 x13 a2 s_M0 (by first | assumption | decide | (constructor <;> ((try simp only [ti_le, ti_lt, ti_eq, Int32.reduceToInt] at *) <;> omega))) (by first | assumption | decide | (constructor <;> ((try simp only [ti_le, ti_lt, ti_eq, Int32.reduceToInt] at *) <;> omega))) hQ
  · skip
    refine ps_brn hc1 ?_
    (try simp only [if_neg hc1])
    exact so_R_number_j2 (d := d) (ρ := ρ) M0 a3 x1 x13 ((a4 - (1 : Int32)) - a2) s_M0 (by first | assumption | decide | (constructor <;> ((try simp only [ti_le, ti_lt, ti_eq, Int32.reduceToInt] at *) <;> omega))) (by exact flip_in (by assumption) (by assumption) (by assumption)) hQ
set_option maxRecDepth 100000 in
set_option maxHeartbeats 4000000 in
theorem sq_R_number {d : Int32} {ρ : Nat → Int32} {Q : Int32 → Prop} (M0 : Mem) (a1 : Int32) (a2 : Int32) (a3 : Int32) (a4 : Int32) (s_M0 : SR d ρ M0) (hp0 : 0 ≤ (a1).toInt ∧ (a1).toInt ≤ 156) (hp1 : 0 ≤ (a2).toInt) (hp2 : (a2).toInt < (a4).toInt) (hp3 : (a4).toInt ≤ 16) (hQ : ∀ (x : Int32), Q x) : ok_R_number M0 a1 a2 a3 a4 ∧ Q (f_R_number_v M0 a1 a2 a3 a4) := by
  unfold ok_R_number f_R_number_v
  (try dsimp only)
  refine ps_and (by first | (rw [vp_iff, ti_add (by (try simp only [ti_le, ti_lt, ti_eq, Int32.reduceToInt] at *) <;> omega) (by (try simp only [ti_le, ti_lt, ti_eq, Int32.reduceToInt] at *) <;> omega)]; constructor <;> ((try simp only [ti_le, ti_lt, ti_eq, Int32.reduceToInt] at *) <;> omega)) | (have h8 := q0_x85.a (by assumption); rw [vp_iff, ti_add (by (try simp only [ti_le, ti_lt, ti_eq, Int32.reduceToInt] at *) <;> omega) (by (try simp only [ti_le, ti_lt, ti_eq, Int32.reduceToInt] at *) <;> omega)]; constructor <;> ((try simp only [ti_le, ti_lt, ti_eq, Int32.reduceToInt] at *) <;> omega))) ?_
  refine ps_let ?_
  generalize e_x1 : (M0 5 ((a1 + (3 : Int32))).toNatClampNeg) = x1
  have q0_x1 : 0 ≤ (x1).toInt ∧ (x1).toInt < 256 := by rw [← e_x1]; exact s_M0.a (by decide)
  by_cases hc1 : a4 = (16 : Int32)
  · skip
    refine ps_nrp hc1 ?_
    (try simp only [if_pos hc1])
    refine ps_and (by first | (rw [vp_iff, ti_add (by (try simp only [ti_le, ti_lt, ti_eq, Int32.reduceToInt] at *) <;> omega) (by (try simp only [ti_le, ti_lt, ti_eq, Int32.reduceToInt] at *) <;> omega)]; constructor <;> ((try simp only [ti_le, ti_lt, ti_eq, Int32.reduceToInt] at *) <;> omega)) | (have h8 := q0_x85.a (by assumption); rw [vp_iff, ti_add (by (try simp only [ti_le, ti_lt, ti_eq, Int32.reduceToInt] at *) <;> omega) (by (try simp only [ti_le, ti_lt, ti_eq, Int32.reduceToInt] at *) <;> omega)]; constructor <;> ((try simp only [ti_le, ti_lt, ti_eq, Int32.reduceToInt] at *) <;> omega))) ?_
    exact so_R_number_j1 (d := d) (ρ := ρ) M0 a2 a3 a4 x1 ((M0 5 ((a1 + (2 : Int32))).toNatClampNeg) &&& (254 : Int32)) s_M0 (by first | assumption | decide | ((try simp only [ti_le, ti_lt, ti_eq, Int32.reduceToInt] at *) <;> omega)) (by first | assumption | decide | ((try simp only [ti_le, ti_lt, ti_eq, Int32.reduceToInt] at *) <;> omega)) (by first | assumption | decide | ((try simp only [ti_le, ti_lt, ti_eq, Int32.reduceToInt] at *) <;> omega)) (by first | assumption | exact and_lt (by decide)) hQ
  · skip
    refine ps_nrn hc1 ?_
    (try simp only [if_neg hc1])
    refine ps_and (by first | (rw [vp_iff, ti_add (by (try simp only [ti_le, ti_lt, ti_eq, Int32.reduceToInt] at *) <;> omega) (by (try simp only [ti_le, ti_lt, ti_eq, Int32.reduceToInt] at *) <;> omega)]; constructor <;> ((try simp only [ti_le, ti_lt, ti_eq, Int32.reduceToInt] at *) <;> omega)) | (have h8 := q0_x85.a (by assumption); rw [vp_iff, ti_add (by (try simp only [ti_le, ti_lt, ti_eq, Int32.reduceToInt] at *) <;> omega) (by (try simp only [ti_le, ti_lt, ti_eq, Int32.reduceToInt] at *) <;> omega)]; constructor <;> ((try simp only [ti_le, ti_lt, ti_eq, Int32.reduceToInt] at *) <;> omega))) ?_
    exact so_R_number_j1 (d := d) (ρ := ρ) M0 a2 a3 a4 x1 (M0 5 ((a1 + (2 : Int32))).toNatClampNeg) s_M0 (by first | assumption | decide | ((try simp only [ti_le, ti_lt, ti_eq, Int32.reduceToInt] at *) <;> omega)) (by first | assumption | decide | ((try simp only [ti_le, ti_lt, ti_eq, Int32.reduceToInt] at *) <;> omega)) (by first | assumption | decide | ((try simp only [ti_le, ti_lt, ti_eq, Int32.reduceToInt] at *) <;> omega)) (by first | assumption | exact s_M0.a (by decide)) hQ
theorem so_R_number {d : Int32} {ρ : Nat → Int32} (M0 : Mem) (a1 : Int32) (a2 : Int32) (a3 : Int32) (a4 : Int32) (s_M0 : SR d ρ M0) (hp0 : 0 ≤ (a1).toInt ∧ (a1).toInt ≤ 156) (hp1 : 0 ≤ (a2).toInt) (hp2 : (a2).toInt < (a4).toInt) (hp3 : (a4).toInt ≤ 16) : ok_R_number M0 a1 a2 a3 a4 ∧ True := sq_R_number (d := d) (ρ := ρ) (Q := fun _ => True) M0 a1 a2 a3 a4 s_M0 hp0 hp1 hp2 hp3 (fun _ => trivial)
set_option maxRecDepth 100000 in
set_option maxHeartbeats 4000000 in
theorem so_R_sprite_j2 {d : Int32} {ρ : Nat → Int32} {PB : Int32 → Prop} {Q : Int32 → Prop} (x31 : Int32) (hp0 : PB x31) (hQ : ∀ (x : Int32), PB x → Q x) : Q (f_R_sprite_j2_v x31) := by
  unfold f_R_sprite_j2_v
  (try dsimp only)
  exact hQ _ (by first | assumption | exact hq1 x32 (by omega) (by (try simp only [ti_le, ti_lt, Int32.reduceToInt] at *) <;> omega) (by rw [e_x45]; assumption) (by rw [e_x45]; assumption))
set_option maxRecDepth 100000 in
set_option maxHeartbeats 4000000 in
theorem so_R_sprite_j3 {d : Int32} {ρ : Nat → Int32} {PB : Int32 → Prop} {Q : Int32 → Prop} (x32 : Int32) (n : Nat) (K1_v : Int32 → Int32 → Int32 → Int32) (K1_ok : Int32 → Int32 → Int32 → Prop) (x52 : Int32) (x53 : Int32) (hp0 : PB x53) (hp1 : (x53).toInt < 0 ∨ (0 ≤ (x53).toInt ∧ (x53).toInt ≤ 156)) (hp2 : 0 ≤ (x32).toInt) (hp3 : (x32).toInt < 160) (hp4 : (x32).toInt % 4 = 0) (hp5 : 160 < (x32).toInt + 4 * (n + 1)) (hK1 : ∀ (z0 : Int32) (z1 : Int32) (z2 : Int32), PB z1 → (z1).toInt < 0 ∨ (0 ≤ (z1).toInt ∧ (z1).toInt ≤ 156) → 0 ≤ (z2).toInt → (z2).toInt ≤ 160 → (z2).toInt % 4 = 0 → 160 < (z2).toInt + 4 * n → K1_ok z0 z1 z2 ∧ Q (K1_v z0 z1 z2)) (hQ : ∀ (x : Int32), PB x → Q x) : ok_R_sprite_j3 x32 K1_ok x52 x53 ∧ Q (f_R_sprite_j3_v x32 K1_v x52 x53) := by
  unfold ok_R_sprite_j3 f_R_sprite_j3_v
  (try dsimp only)
  refine ps_let ?_
  generalize e_x54 : x32 + (4 : Int32) = x54
  have a_x54 : x54.toInt = x32.toInt + 4 := by rw [← e_x54, ti_add (by (try simp only [ti_le, ti_lt, Int32.reduceToInt] at *) <;> omega) (by (try simp only [ti_le, ti_lt, Int32.reduceToInt] at *) <;> omega)]; rfl
  exact hK1 x52 x53 x54 (by first | assumption | exact hq1 x32 (by omega) (by (try simp only [ti_le, ti_lt, Int32.reduceToInt] at *) <;> omega) (by rw [e_x45]; assumption) (by rw [e_x45]; assumption)) (by first | assumption | decide | ((try simp only [ti_le, ti_lt, ti_eq, Int32.reduceToInt] at *) <;> omega)) (by first | assumption | decide | ((try simp only [ti_le, ti_lt, ti_eq, Int32.reduceToInt] at *) <;> omega)) (by first | assumption | decide | ((try simp only [ti_le, ti_lt, ti_eq, Int32.reduceToInt] at *) <;> omega)) (by first | assumption | decide | ((try simp only [ti_le, ti_lt, ti_eq, Int32.reduceToInt] at *) <;> omega)) (by first | assumption | decide | ((try simp only [ti_le, ti_lt, ti_eq, Int32.reduceToInt] at *) <;> omega))
set_option maxRecDepth 100000 in
set_option maxHeartbeats 4000000 in
theorem so_R_sprite_j4 {d : Int32} {ρ : Nat → Int32} {PB : Int32 → Prop} {Q : Int32 → Prop} (x32 : Int32) (x55 : Int32) (n : Nat) (K1_v : Int32 → Int32 → Int32 → Int32) (K1_ok : Int32 → Int32 → Int32 → Prop) (hp0 : PB x32) (hp1 : 0 ≤ (x32).toInt) (hp2 : (x32).toInt < 160) (hp3 : (x32).toInt % 4 = 0) (hp4 : 160 < (x32).toInt + 4 * (n + 1)) (hK1 : ∀ (z0 : Int32) (z1 : Int32) (z2 : Int32), PB z1 → (z1).toInt < 0 ∨ (0 ≤ (z1).toInt ∧ (z1).toInt ≤ 156) → 0 ≤ (z2).toInt → (z2).toInt ≤ 160 → (z2).toInt % 4 = 0 → 160 < (z2).toInt + 4 * n → K1_ok z0 z1 z2 ∧ Q (K1_v z0 z1 z2)) (hQ : ∀ (x : Int32), PB x → Q x) : ok_R_sprite_j4 x32 x55 K1_ok ∧ Q (f_R_sprite_j4_v x32 x55 K1_v) := by
  unfold ok_R_sprite_j4 f_R_sprite_j4_v
  (try dsimp only)
  exact so_R_sprite_j3 (d := d) (ρ := ρ) (PB := PB) x32 n _ _ x55 x32 (by first | assumption | exact hq1 x32 (by omega) (by (try simp only [ti_le, ti_lt, Int32.reduceToInt] at *) <;> omega) (by rw [e_x45]; assumption) (by rw [e_x45]; assumption)) (by first | assumption | decide | ((try simp only [ti_le, ti_lt, ti_eq, Int32.reduceToInt] at *) <;> omega)) (by first | assumption | decide | ((try simp only [ti_le, ti_lt, ti_eq, Int32.reduceToInt] at *) <;> omega)) (by first | assumption | decide | ((try simp only [ti_le, ti_lt, ti_eq, Int32.reduceToInt] at *) <;> omega)) (by first | assumption | decide | ((try simp only [ti_le, ti_lt, ti_eq, Int32.reduceToInt] at *) <;> omega)) (by first | assumption | decide | ((try simp only [ti_le, ti_lt, ti_eq, Int32.reduceToInt] at *) <;> omega)) hK1 hQ
set_option maxRecDepth 100000 in
set_option maxHeartbeats 4000000 in
theorem so_R_sprite_l1 {d : Int32} {ρ : Nat → Int32} {PB : Int32 → Prop} {Q : Int32 → Prop} (M0 : Mem) (a1 : Int32) (a2 : Int32) (x29 : Int32) (s_M0 : SR d ρ M0) (hq0 : (x29).toInt ≤ 16) (hq1 : ∀ k : Int32, 0 ≤ k.toInt → k.toInt ≤ 156 → ¬ (a2 - ((M0 5 k.toNatClampNeg) - (16 : Int32))) < 0 → (a2 - ((M0 5 k.toNatClampNeg) - (16 : Int32))) < x29 → PB k) (hQ : ∀ (x : Int32), PB x → Q x) : ∀ (n : Nat) (x30 : Int32) (x31 : Int32) (x32 : Int32), PB x31 → (x31).toInt < 0 ∨ (0 ≤ (x31).toInt ∧ (x31).toInt ≤ 156) → 0 ≤ (x32).toInt → (x32).toInt ≤ 160 → (x32).toInt % 4 = 0 → 160 < (x32).toInt + 4 * n → ok_R_sprite_l1 M0 a1 a2 x29 n x30 x31 x32 ∧ Q (f_R_sprite_l1_v M0 a1 a2 x29 n x30 x31 x32) := by
  intro n
  induction n with
  | zero =>
    intro x30 x31 x32  hL0 hL1 hL2 hL3 hL4 hL5
    exact False.elim (by (try simp only [ti_le, ti_lt, Int32.reduceToInt] at *) <;> omega)
  | succ n ih =>
    intro x30 x31 x32  hL0 hL1 hL2 hL3 hL4 hL5
    have hK1 := ih
    show (((((160 : Int32) ≤ x32) → True) ∧ ((¬ (160 : Int32) ≤ x32) → ((((10 : Int32) ≤ x30) → True) ∧ ((¬ (10 : Int32) ≤ x30) → (((((M0 0 33) &&& (2 : Int32)) ≤ 0) → True) ∧ ((¬ ((M0 0 33) &&& (2 : Int32)) ≤ 0) → vp_in x32 160 ∧ (∀ x45 : Int32, x45 = (a2 - ((M0 5 x32.toNatClampNeg) - (16 : Int32))) → vp_in (x32 + (1 : Int32)) 160 ∧ (∀ x46 : Int32, x46 = (a1 - ((M0 5 ((x32 + (1 : Int32))).toNatClampNeg) - (8 : Int32))) → (((x45 < 0) → ok_R_sprite_j3 x32 (ok_R_sprite_l1 M0 a1 a2 x29 n) x30 x31) ∧ ((¬ x45 < 0) → (((x45 < x29) → ∀ x55 : Int32, x55 = x30 + (1 : Int32) → (((x46 < 0) → ok_R_sprite_j3 x32 (ok_R_sprite_l1 M0 a1 a2 x29 n) x55 x31) ∧ ((¬ x46 < 0) → ((((7 : Int32) < x46) → ok_R_sprite_j3 x32 (ok_R_sprite_l1 M0 a1 a2 x29 n) x55 x31) ∧ ((¬ (7 : Int32) < x46) → ok_R_number M0 x32 x45 x46 x29 ∧ (∀ x56 : Int32, x56 = f_R_number_v M0 x32 x45 x46 x29 → (((¬ x56 = 0) → (((x31 < 0) → ok_R_sprite_j4 x32 x55 (ok_R_sprite_l1 M0 a1 a2 x29 n)) ∧ ((¬ x31 < 0) → vp_in (x32 + (1 : Int32)) 160 ∧ (vp_in (x31 + (1 : Int32)) 160 ∧ (((((M0 5 ((x31 + (1 : Int32))).toNatClampNeg) ≤ (M0 5 ((x32 + (1 : Int32))).toNatClampNeg)) → ok_R_sprite_j3 x32 (ok_R_sprite_l1 M0 a1 a2 x29 n) x55 x31) ∧ ((¬ (M0 5 ((x31 + (1 : Int32))).toNatClampNeg) ≤ (M0 5 ((x32 + (1 : Int32))).toNatClampNeg)) → ok_R_sprite_j4 x32 x55 (ok_R_sprite_l1 M0 a1 a2 x29 n)))))))) ∧ ((x56 = 0) → ok_R_sprite_j3 x32 (ok_R_sprite_l1 M0 a1 a2 x29 n) x55 x31)))))))) ∧ ((¬ x45 < x29) → ok_R_sprite_j3 x32 (ok_R_sprite_l1 M0 a1 a2 x29 n) x30 x31))))))))))))) ∧ Q ((if (160 : Int32) ≤ x32 then (f_R_sprite_j2_v x31) else (if (10 : Int32) ≤ x30 then (f_R_sprite_j2_v x31) else (if ((M0 0 33) &&& (2 : Int32)) ≤ 0 then (f_R_sprite_j2_v x31) else let x45 : Int32 := (a2 - ((M0 5 x32.toNatClampNeg) - (16 : Int32))); let x46 : Int32 := (a1 - ((M0 5 ((x32 + (1 : Int32))).toNatClampNeg) - (8 : Int32))); (if x45 < 0 then (f_R_sprite_j3_v x32 (f_R_sprite_l1_v M0 a1 a2 x29 n) x30 x31) else (if x45 < x29 then let x55 : Int32 := x30 + (1 : Int32); (if x46 < 0 then (f_R_sprite_j3_v x32 (f_R_sprite_l1_v M0 a1 a2 x29 n) x55 x31) else (if (7 : Int32) < x46 then (f_R_sprite_j3_v x32 (f_R_sprite_l1_v M0 a1 a2 x29 n) x55 x31) else let x56 : Int32 := f_R_number_v M0 x32 x45 x46 x29; (if x56 = 0 then (f_R_sprite_j3_v x32 (f_R_sprite_l1_v M0 a1 a2 x29 n) x55 x31) else (if x31 < 0 then (f_R_sprite_j4_v x32 x55 (f_R_sprite_l1_v M0 a1 a2 x29 n)) else (if (M0 5 ((x31 + (1 : Int32))).toNatClampNeg) ≤ (M0 5 ((x32 + (1 : Int32))).toNatClampNeg) then (f_R_sprite_j3_v x32 (f_R_sprite_l1_v M0 a1 a2 x29 n) x55 x31) else (f_R_sprite_j4_v x32 x55 (f_R_sprite_l1_v M0 a1 a2 x29 n))))))) else (f_R_sprite_j3_v x32 (f_R_sprite_l1_v M0 a1 a2 x29 n) x30 x31)))))))
    (try dsimp only)
    by_cases hc2 : (160 : Int32) ≤ x32
    · skip
      refine ps_brp hc2 ?_
      refine And.intro trivial ?_
      (try simp only [if_pos hc2])
      exact so_R_sprite_j2 (d := d) (ρ := ρ) (PB := PB) x31 (by first | assumption | exact hq1 x32 (by omega) (by (try simp only [ti_le, ti_lt, Int32.reduceToInt] at *) <;> omega) (by rw [e_x45]; assumption) (by rw [e_x45]; assumption)) hQ
    · skip
      refine ps_brn hc2 ?_
      (try simp only [if_neg hc2])
      by_cases hc3 : (10 : Int32) ≤ x30
      · skip
        refine ps_brp hc3 ?_
        refine And.intro trivial ?_
        (try simp only [if_pos hc3])
        exact so_R_sprite_j2 (d := d) (ρ := ρ) (PB := PB) x31 (by first | assumption | exact hq1 x32 (by omega) (by (try simp only [ti_le, ti_lt, Int32.reduceToInt] at *) <;> omega) (by rw [e_x45]; assumption) (by rw [e_x45]; assumption)) hQ
      · skip
        refine ps_brn hc3 ?_
        (try simp only [if_neg hc3])
        by_cases hc4 : ((M0 0 33) &&& (2 : Int32)) ≤ 0
        · skip
          refine ps_brp hc4 ?_
          refine And.intro trivial ?_
          (try simp only [if_pos hc4])
          exact so_R_sprite_j2 (d := d) (ρ := ρ) (PB := PB) x31 (by first | assumption | exact hq1 x32 (by omega) (by (try simp only [ti_le, ti_lt, Int32.reduceToInt] at *) <;> omega) (by rw [e_x45]; assumption) (by rw [e_x45]; assumption)) hQ
        · skip
          refine ps_brn hc4 ?_
          (try simp only [if_neg hc4])
          refine ps_and (by first | assumption | (rw [vp_iff]; constructor <;> ((try simp only [ti_le, ti_lt, ti_eq, Int32.reduceToInt] at *) <;> omega))) ?_
          refine ps_let ?_
          generalize e_x45 : (a2 - ((M0 5 x32.toNatClampNeg) - (16 : Int32))) = x45
          refine ps_and (by first | (rw [vp_iff, ti_add (by (try simp only [ti_le, ti_lt, ti_eq, Int32.reduceToInt] at *) <;> omega) (by (try simp only [ti_le, ti_lt, ti_eq, Int32.reduceToInt] at *) <;> omega)]; constructor <;> ((try simp only [ti_le, ti_lt, ti_eq, Int32.reduceToInt] at *) <;> omega)) | (have h8 := q0_x85.a (by assumption); rw [vp_iff, ti_add (by (try simp only [ti_le, ti_lt, ti_eq, Int32.reduceToInt] at *) <;> omega) (by (try simp only [ti_le, ti_lt, ti_eq, Int32.reduceToInt] at *) <;> omega)]; constructor <;> ((try simp only [ti_le, ti_lt, ti_eq, Int32.reduceToInt] at *) <;> omega))) ?_
          refine ps_let ?_
          generalize e_x46 : (a1 - ((M0 5 ((x32 + (1 : Int32))).toNatClampNeg) - (8 : Int32))) = x46
          by_cases hc5 : x45 < 0
          · skip
            refine ps_brp hc5 ?_
            (try simp only [if_pos hc5])
            exact so_R_sprite_j3 (d := d) (ρ := ρ) (PB := PB) x32 n _ _ x30 x31 (by first | assumption | exact hq1 x32 (by omega) (by (try simp only [ti_le, ti_lt, Int32.reduceToInt] at *) <;> omega) (by rw [e_x45]; assumption) (by rw [e_x45]; assumption)) (by first | assumption | decide | ((try simp only [ti_le, ti_lt, ti_eq, Int32.reduceToInt] at *) <;> omega)) (by first | assumption | decide | ((try simp only [ti_le, ti_lt, ti_eq, Int32.reduceToInt] at *) <;> omega)) (by first | assumption | decide | ((try simp only [ti_le, ti_lt, ti_eq, Int32.reduceToInt] at *) <;> omega)) (by first | assumption | decide | ((try simp only [ti_le, ti_lt, ti_eq, Int32.reduceToInt] at *) <;> omega)) (by first | assumption | decide | ((try simp only [ti_le, ti_lt, ti_eq, Int32.reduceToInt] at *) <;> omega)) hK1 hQ
          · skip
            refine ps_brn hc5 ?_
            (try simp only [if_neg hc5])
            by_cases hc6 : x45 < x29
            · skip
              refine ps_brp hc6 ?_
              (try simp only [if_pos hc6])
              refine ps_let ?_
              generalize e_x55 : x30 + (1 : Int32) = x55
              by_cases hc7 : x46 < 0
              · skip
                refine ps_brp hc7 ?_
                (try simp only [if_pos hc7])
                exact so_R_sprite_j3 (d := d) (ρ := ρ) (PB := PB) x32 n _ _ x55 x31 (by first | assumption | exact hq1 x32 (by omega) (by (try simp only [ti_le, ti_lt, Int32.reduceToInt] at *) <;> omega) (by rw [e_x45]; assumption) (by rw [e_x45]; assumption)) (by first | assumption | decide | ((try simp only [ti_le, ti_lt, ti_eq, Int32.reduceToInt] at *) <;> omega)) (by first | assumption | decide | ((try simp only [ti_le, ti_lt, ti_eq, Int32.reduceToInt] at *) <;> omega)) (by first | assumption | decide | ((try simp only [ti_le, ti_lt, ti_eq, Int32.reduceToInt] at *) <;> omega)) (by first | assumption | decide | ((try simp only [ti_le, ti_lt, ti_eq, Int32.reduceToInt] at *) <;> omega)) (by first | assumption | decide | ((try simp only [ti_le, ti_lt, ti_eq, Int32.reduceToInt] at *) <;> omega)) hK1 hQ
              · skip
                refine ps_brn hc7 ?_
                (try simp only [if_neg hc7])
                by_cases hc8 : (7 : Int32) < x46
                · skip
                  refine ps_brp hc8 ?_
                  (try simp only [if_pos hc8])
                  exact so_R_sprite_j3 (d := d) (ρ := ρ) (PB := PB) x32 n _ _ x55 x31 (by first | assumption | exact hq1 x32 (by omega) (by (try simp only [ti_le, ti_lt, Int32.reduceToInt] at *) <;> omega) (by rw [e_x45]; assumption) (by rw [e_x45]; assumption)) (by first | assumption | decide | ((try simp only [ti_le, ti_lt, ti_eq, Int32.reduceToInt] at *) <;> omega)) (by first | assumption | decide | ((try simp only [ti_le, ti_lt, ti_eq, Int32.reduceToInt] at *) <;> omega)) (by first | assumption | decide | ((try simp only [ti_le, ti_lt, ti_eq, Int32.reduceToInt] at *) <;> omega)) (by first | assumption | decide | ((try simp only [ti_le, ti_lt, ti_eq, Int32.reduceToInt] at *) <;> omega)) (by first | assumption | decide | ((try simp only [ti_le, ti_lt, ti_eq, Int32.reduceToInt] at *) <;> omega)) hK1 hQ
                · skip
                  refine ps_brn hc8 ?_
                  (try simp only [if_neg hc8])
                  have t_ := so_R_number (d := d) (ρ := ρ) M0 x32 x45 x46 x29 s_M0 (by first | assumption | decide | ((try simp only [ti_le, ti_lt, ti_eq, Int32.reduceToInt] at *) <;> omega)) (by first | assumption | decide | ((try simp only [ti_le, ti_lt, ti_eq, Int32.reduceToInt] at *) <;> omega)) (by first | assumption | decide | ((try simp only [ti_le, ti_lt, ti_eq, Int32.reduceToInt] at *) <;> omega)) (by first | assumption | decide | ((try simp only [ti_le, ti_lt, ti_eq, Int32.reduceToInt] at *) <;> omega))
                  refine ps_and t_.1 ?_
                  replace t_ := t_.2
                  refine ps_let ?_
                  generalize e_x56 : f_R_number_v M0 x32 x45 x46 x29 = x56 at t_ ⊢
                  by_cases hc9 : x56 = 0
                  · skip
                    refine ps_nrp hc9 ?_
                    (try simp only [if_pos hc9])
                    exact so_R_sprite_j3 (d := d) (ρ := ρ) (PB := PB) x32 n _ _ x55 x31 (by first | assumption | exact hq1 x32 (by omega) (by (try simp only [ti_le, ti_lt, Int32.reduceToInt] at *) <;> omega) (by rw [e_x45]; assumption) (by rw [e_x45]; assumption)) (by first | assumption | decide | ((try simp only [ti_le, ti_lt, ti_eq, Int32.reduceToInt] at *) <;> omega)) (by first | assumption | decide | ((try simp only [ti_le, ti_lt, ti_eq, Int32.reduceToInt] at *) <;> omega)) (by first | assumption | decide | ((try simp only [ti_le, ti_lt, ti_eq, Int32.reduceToInt] at *) <;> omega)) (by first | assumption | decide | ((try simp only [ti_le, ti_lt, ti_eq, Int32.reduceToInt] at *) <;> omega)) (by first | assumption | decide | ((try simp only [ti_le, ti_lt, ti_eq, Int32.reduceToInt] at *) <;> omega)) hK1 hQ
                  · skip
                    refine ps_nrn hc9 ?_
                    (try simp only [if_neg hc9])
                    by_cases hc10 : x31 < 0
                    · skip
                      refine ps_brp hc10 ?_
                      (try simp only [if_pos hc10])
                      exact so_R_sprite_j4 (d := d) (ρ := ρ) (PB := PB) x32 x55 n _ _ (by first | assumption | exact hq1 x32 (by omega) (by (try simp only [ti_le, ti_lt, Int32.reduceToInt] at *) <;> omega) (by rw [e_x45]; assumption) (by rw [e_x45]; assumption)) (by first | assumption | decide | ((try simp only [ti_le, ti_lt, ti_eq, Int32.reduceToInt] at *) <;> omega)) (by first | assumption | decide | ((try simp only [ti_le, ti_lt, ti_eq, Int32.reduceToInt] at *) <;> omega)) (by first | assumption | decide | ((try simp only [ti_le, ti_lt, ti_eq, Int32.reduceToInt] at *) <;> omega)) (by first | assumption | decide | ((try simp only [ti_le, ti_lt, ti_eq, Int32.reduceToInt] at *) <;> omega)) hK1 hQ
                    · skip
                      refine ps_brn hc10 ?_
                      (try simp only [if_neg hc10])
                      refine ps_and (by first | (rw [vp_iff, ti_add (by (try simp only [ti_le, ti_lt, ti_eq, Int32.reduceToInt] at *) <;> omega) (by (try simp only [ti_le, ti_lt, ti_eq, Int32.reduceToInt] at *) <;> omega)]; constructor <;> ((try simp only [ti_le, ti_lt, ti_eq, Int32.reduceToInt] at *) <;> omega)) | (have h8 := q0_x85.a (by assumption); rw [vp_iff, ti_add (by (try simp only [ti_le, ti_lt, ti_eq, Int32.reduceToInt] at *) <;> omega) (by (try simp only [ti_le, ti_lt, ti_eq, Int32.reduceToInt] at *) <;> omega)]; constructor <;> ((try simp only [ti_le, ti_lt, ti_eq, Int32.reduceToInt] at *) <;> omega))) ?_
                      refine ps_and (by first | (rw [vp_iff, ti_add (by (try simp only [ti_le, ti_lt, ti_eq, Int32.reduceToInt] at *) <;> omega) (by (try simp only [ti_le, ti_lt, ti_eq, Int32.reduceToInt] at *) <;> omega)]; constructor <;> ((try simp only [ti_le, ti_lt, ti_eq, Int32.reduceToInt] at *) <;> omega)) | (have h8 := q0_x85.a (by assumption); rw [vp_iff, ti_add (by (try simp only [ti_le, ti_lt, ti_eq, Int32.reduceToInt] at *) <;> omega) (by (try simp only [ti_le, ti_lt, ti_eq, Int32.reduceToInt] at *) <;> omega)]; constructor <;> ((try simp only [ti_le, ti_lt, ti_eq, Int32.reduceToInt] at *) <;> omega))) ?_
                      by_cases hc11 : (M0 5 ((x31 + (1 : Int32))).toNatClampNeg) ≤ (M0 5 ((x32 + (1 : Int32))).toNatClampNeg)
                      · skip
                        refine ps_brp hc11 ?_
                        (try simp only [if_pos hc11])
                        exact so_R_sprite_j3 (d := d) (ρ := ρ) (PB := PB) x32 n _ _ x55 x31 (by first | assumption | exact hq1 x32 (by omega) (by (try simp only [ti_le, ti_lt, Int32.reduceToInt] at *) <;> omega) (by rw [e_x45]; assumption) (by rw [e_x45]; assumption)) (by first | assumption | decide | ((try simp only [ti_le, ti_lt, ti_eq, Int32.reduceToInt] at *) <;> omega)) (by first | assumption | decide | ((try simp only [ti_le, ti_lt, ti_eq, Int32.reduceToInt] at *) <;> omega)) (by first | assumption | decide | ((try simp only [ti_le, ti_lt, ti_eq, Int32.reduceToInt] at *) <;> omega)) (by first | assumption | decide | ((try simp only [ti_le, ti_lt, ti_eq, Int32.reduceToInt] at *) <;> omega)) (by first | assumption | decide | ((try simp only [ti_le, ti_lt, ti_eq, Int32.reduceToInt] at *) <;> omega)) hK1 hQ
                      · skip
                        refine ps_brn hc11 ?_
                        (try simp only [if_neg hc11])
                        exact so_R_sprite_j4 (d := d) (ρ := ρ) (PB := PB) x32 x55 n _ _ (by first | assumption | exact hq1 x32 (by omega) (by (try simp only [ti_le, ti_lt, Int32.reduceToInt] at *) <;> omega) (by rw [e_x45]; assumption) (by rw [e_x45]; assumption)) (by first | assumption | decide | ((try simp only [ti_le, ti_lt, ti_eq, Int32.reduceToInt] at *) <;> omega)) (by first | assumption | decide | ((try simp only [ti_le, ti_lt, ti_eq, Int32.reduceToInt] at *) <;> omega)) (by first | assumption | decide | ((try simp only [ti_le, ti_lt, ti_eq, Int32.reduceToInt] at *) <;> omega)) (by first | assumption | decide | ((try simp only [ti_le, ti_lt, ti_eq, Int32.reduceToInt] at *) <;> omega)) hK1 hQ
            · skip
              refine ps_brn hc6 ?_
              (try simp only [if_neg hc6])
              exact so_R_sprite_j3 (d := d) (ρ := ρ) (PB := PB) x32 n _ _ x30 x31 (by first | assumption | exact hq1 x32 (by omega) (by (try simp only [ti_le, ti_lt, Int32.reduceToInt] at *) <;> omega) (by rw [e_x45]; assumption) (by rw [e_x45]; assumption)) (by first | assumption | decide | ((try simp only [ti_le, ti_lt, ti_eq, Int32.reduceToInt] at *) <;> omega)) (by first | assumption | decide | ((try simp only [ti_le, ti_lt, ti_eq, Int32.reduceToInt] at *) <;> omega)) (by first | assumption | decide | ((try simp only [ti_le, ti_lt, ti_eq, Int32.reduceToInt] at *) <;> omega)) (by first | assumption | decide | ((try simp only [ti_le, ti_lt, ti_eq, Int32.reduceToInt] at *) <;> omega)) (by first | assumption | decide | ((try simp only [ti_le, ti_lt, ti_eq, Int32.reduceToInt] at *) <;> omega)) hK1 hQ
set_option maxRecDepth 100000 in
set_option maxHeartbeats 4000000 in
theorem so_R_sprite_j1 {d : Int32} {ρ : Nat → Int32} {PB : Int32 → Prop} {Q : Int32 → Prop} (M0 : Mem) (a1 : Int32) (a2 : Int32) (x29 : Int32) (s_M0 : SR d ρ M0) (hp0 : (x29).toInt ≤ 16) (hp1 : ∀ k : Int32, 0 ≤ k.toInt → k.toInt ≤ 156 → ¬ (a2 - ((M0 5 k.toNatClampNeg) - (16 : Int32))) < 0 → (a2 - ((M0 5 k.toNatClampNeg) - (16 : Int32))) < x29 → PB k) (hp2 : PB (-1)) (hQ : ∀ (x : Int32), PB x → Q x) : ok_R_sprite_j1 M0 a1 a2 x29 ∧ Q (f_R_sprite_j1_v M0 a1 a2 x29) := by
  unfold ok_R_sprite_j1 f_R_sprite_j1_v
  (try dsimp only)
  exact so_R_sprite_l1 (d := d) (ρ := ρ) (PB := PB) M0 a1 a2 x29 s_M0 (by first | assumption | decide | ((try simp only [ti_le, ti_lt, ti_eq, Int32.reduceToInt] at *) <;> omega)) (by first | assumption | exact fun k => hp1 _ k (Or.inl ⟨rfl, hc1⟩) | exact fun k => hp1 _ k (Or.inr ⟨rfl, hc1⟩)) hQ 41 (0 : Int32) (-1 : Int32) (0 : Int32) (by first | assumption | exact hq1 x32 (by omega) (by (try simp only [ti_le, ti_lt, Int32.reduceToInt] at *) <;> omega) (by rw [e_x45]; assumption) (by rw [e_x45]; assumption)) (by first | assumption | decide | ((try simp only [ti_le, ti_lt, ti_eq, Int32.reduceToInt] at *) <;> omega)) (by first | assumption | decide | ((try simp only [ti_le, ti_lt, ti_eq, Int32.reduceToInt] at *) <;> omega)) (by first | assumption | decide | ((try simp only [ti_le, ti_lt, ti_eq, Int32.reduceToInt] at *) <;> omega)) (by first | assumption | decide | ((try simp only [ti_le, ti_lt, ti_eq, Int32.reduceToInt] at *) <;> omega)) (by first | assumption | decide | ((try simp only [ti_le, ti_lt, ti_eq, Int32.reduceToInt] at *) <;> omega))
set_option maxRecDepth 100000 in
set_option maxHeartbeats 4000000 in
theorem sq_R_sprite {d : Int32} {ρ : Nat → Int32} {PB : Int32 → Prop} {Q : Int32 → Prop} (M0 : Mem) (a1 : Int32) (a2 : Int32) (s_M0 : SR d ρ M0) (hp0 : PB (-1)) (hp1 : ∀ (h k : Int32), (h = 8 ∧ ((M0 0 33) &&& (4 : Int32)) ≤ 0 ∨ h = 16 ∧ ¬ ((M0 0 33) &&& (4 : Int32)) ≤ 0) → 0 ≤ k.toInt → k.toInt ≤ 156 → ¬ (a2 - ((M0 5 k.toNatClampNeg) - (16 : Int32))) < 0 → (a2 - ((M0 5 k.toNatClampNeg) - (16 : Int32))) < h → PB k) (hQ : ∀ (x : Int32), PB x → Q x) : ok_R_sprite M0 a1 a2 ∧ Q (f_R_sprite_v M0 a1 a2) := by
  unfold ok_R_sprite f_R_sprite_v
  (try dsimp only)
  by_cases hc1 : ((M0 0 33) &&& (4 : Int32)) ≤ 0
  · skip
    refine ps_brp hc1 ?_
    (try simp only [if_pos hc1])
    exact so_R_sprite_j1 (d := d) (ρ := ρ) (PB := PB) M0 a1 a2 (8 : Int32) s_M0 (by first | assumption | decide | ((try simp only [ti_le, ti_lt, ti_eq, Int32.reduceToInt] at *) <;> omega)) (by first | assumption | exact fun k => hp1 _ k (Or.inl ⟨rfl, hc1⟩) | exact fun k => hp1 _ k (Or.inr ⟨rfl, hc1⟩)) (by first | assumption | exact PBr_m1) hQ
  · skip
    refine ps_brn hc1 ?_
    (try simp only [if_neg hc1])
    exact so_R_sprite_j1 (d := d) (ρ := ρ) (PB := PB) M0 a1 a2 (16 : Int32) s_M0 (by first | assumption | decide | ((try simp only [ti_le, ti_lt, ti_eq, Int32.reduceToInt] at *) <;> omega)) (by first | assumption | exact fun k => hp1 _ k (Or.inl ⟨rfl, hc1⟩) | exact fun k => hp1 _ k (Or.inr ⟨rfl, hc1⟩)) (by first | assumption | exact PBr_m1) hQ
theorem so_R_sprite {d : Int32} {ρ : Nat → Int32} {PB : Int32 → Prop} (M0 : Mem) (a1 : Int32) (a2 : Int32) (s_M0 : SR d ρ M0) (hp0 : PB (-1)) (hp1 : ∀ (h k : Int32), (h = 8 ∧ ((M0 0 33) &&& (4 : Int32)) ≤ 0 ∨ h = 16 ∧ ¬ ((M0 0 33) &&& (4 : Int32)) ≤ 0) → 0 ≤ k.toInt → k.toInt ≤ 156 → ¬ (a2 - ((M0 5 k.toNatClampNeg) - (16 : Int32))) < 0 → (a2 - ((M0 5 k.toNatClampNeg) - (16 : Int32))) < h → PB k) : ok_R_sprite M0 a1 a2 ∧ PB (f_R_sprite_v M0 a1 a2) := sq_R_sprite (d := d) (ρ := ρ) (PB := PB) (Q := fun x => PB x) M0 a1 a2 s_M0 hp0 hp1 (fun _ h1 => h1)
set_option maxRecDepth 100000 in
set_option maxHeartbeats 4000000 in
theorem so_R_row_j3 {d : Int32} {ρ : Nat → Int32} {Q : Int32 → Mem → Prop} (x81 : Int32) (x82 : Int32) (M83 : Mem) (n : Nat) (K1_v : Int32 → Int32 → Mem → Int32) (K1_m : Int32 → Int32 → Mem → Mem) (K1_ok : Int32 → Int32 → Mem → Prop) (x125 : Int32) (s_M83 : SR d ρ M83) (hp0 : 0 ≤ (x82).toInt) (hp1 : (x82).toInt < 160) (hp2 : 160 < (x82).toInt + (n + 1)) (hK1 : ∀ (z0 : Int32) (z1 : Int32) (z2 : Mem), SR d ρ z2 → 0 ≤ (z1).toInt → (z1).toInt ≤ 160 → 160 < (z1).toInt + n → K1_ok z0 z1 z2 ∧ Q (K1_v z0 z1 z2) (K1_m z0 z1 z2)) (hQ : ∀ (x : Int32) (M' : Mem), SR d ρ M' → Q x M') : ok_R_row_j3 x81 x82 M83 K1_ok x125 ∧ Q (f_R_row_j3_v x81 x82 M83 K1_v x125) (f_R_row_j3_m x81 x82 M83 K1_m x125) := by
  unfold ok_R_row_j3 f_R_row_j3_v f_R_row_j3_m
  (try dsimp only)
  refine ps_and (by first | assumption | (rw [vp_iff]; constructor <;> ((try simp only [ti_le, ti_lt, ti_eq, Int32.reduceToInt] at *) <;> omega))) ?_
  refine ps_let ?_
  have s_M126 : SR d ρ (mst M83 7 x82.toNatClampNeg x125) := SR.sl s_M83
  generalize e_M126 : mst M83 7 x82.toNatClampNeg x125 = M126 at s_M126 ⊢
  refine ps_and (by first | assumption | (rw [vp_iff]; constructor <;> ((try simp only [ti_le, ti_lt, ti_eq, Int32.reduceToInt] at *) <;> omega))) ?_
  refine ps_let ?_
  generalize e_x127 : (x81 + (M126 7 x82.toNatClampNeg)) = x127
  refine ps_let ?_
  generalize e_x128 : x82 + (1 : Int32) = x128
  have a_x128 : x128.toInt = x82.toInt + 1 := by rw [← e_x128, ti_add (by (try simp only [ti_le, ti_lt, Int32.reduceToInt] at *) <;> omega) (by (try simp only [ti_le, ti_lt, Int32.reduceToInt] at *) <;> omega)]; rfl
  exact hK1 x127 x128 M126 s_M126 (by first | assumption | decide | ((try simp only [ti_le, ti_lt, ti_eq, Int32.reduceToInt] at *) <;> omega)) (by first | assumption | decide | ((try simp only [ti_le, ti_lt, ti_eq, Int32.reduceToInt] at *) <;> omega)) (by first | assumption | decide | ((try simp only [ti_le, ti_lt, ti_eq, Int32.reduceToInt] at *) <;> omega))
set_option maxRecDepth 100000 in
set_option maxHeartbeats 4000000 in
theorem so_R_row_j2 {d : Int32} {ρ : Nat → Int32} {Q : Int32 → Mem → Prop} (x81 : Int32) (x82 : Int32) (M83 : Mem) (n : Nat) (K1_v : Int32 → Int32 → Mem → Int32) (K1_m : Int32 → Int32 → Mem → Mem) (K1_ok : Int32 → Int32 → Mem → Prop) (x120 : Int32) (s_M83 : SR d ρ M83) (hp0 : 0 ≤ (x82).toInt) (hp1 : (x82).toInt < 160) (hp2 : 160 < (x82).toInt + (n + 1)) (hK1 : ∀ (z0 : Int32) (z1 : Int32) (z2 : Mem), SR d ρ z2 → 0 ≤ (z1).toInt → (z1).toInt ≤ 160 → 160 < (z1).toInt + n → K1_ok z0 z1 z2 ∧ Q (K1_v z0 z1 z2) (K1_m z0 z1 z2)) (hQ : ∀ (x : Int32) (M' : Mem), SR d ρ M' → Q x M') : ok_R_row_j2 x81 x82 M83 K1_ok x120 ∧ Q (f_R_row_j2_v x81 x82 M83 K1_v x120) (f_R_row_j2_m x81 x82 M83 K1_m x120) := by
  unfold ok_R_row_j2 f_R_row_j2_v f_R_row_j2_m
  (try dsimp only)
  by_cases hc1 : ((M83 0 33) &&& (128 : Int32)) ≤ 0
  · skip
    refine ps_brp hc1 ?_
    (try simp only [if_pos hc1])
    exact so_R_row_j3 (d := d) (ρ := ρ) x81 x82 M83 n _ _ _ (0 : Int32) s_M83 (by first | assumption | decide | ((try simp only [ti_le, ti_lt, ti_eq, Int32.reduceToInt] at *) <;> omega)) (by first | assumption | decide | ((try simp only [ti_le, ti_lt, ti_eq, Int32.reduceToInt] at *) <;> omega)) (by first | assumption | decide | ((try simp only [ti_le, ti_lt, ti_eq, Int32.reduceToInt] at *) <;> omega)) hK1 hQ
  · skip
    refine ps_brn hc1 ?_
    (try simp only [if_neg hc1])
    exact so_R_row_j3 (d := d) (ρ := ρ) x81 x82 M83 n _ _ _ x120 s_M83 (by first | assumption | decide | ((try simp only [ti_le, ti_lt, ti_eq, Int32.reduceToInt] at *) <;> omega)) (by first | assumption | decide | ((try simp only [ti_le, ti_lt, ti_eq, Int32.reduceToInt] at *) <;> omega)) (by first | assumption | decide | ((try simp only [ti_le, ti_lt, ti_eq, Int32.reduceToInt] at *) <;> omega)) hK1 hQ
set_option maxRecDepth 100000 in
set_option maxHeartbeats 4000000 in
theorem so_R_row_j6 {d : Int32} {ρ : Nat → Int32} {Q : Int32 → Mem → Prop} (x81 : Int32) (x82 : Int32) (M83 : Mem) (x148 : Int32) (n : Nat) (K1_v : Int32 → Int32 → Mem → Int32) (K1_m : Int32 → Int32 → Mem → Mem) (K1_ok : Int32 → Int32 → Mem → Prop) (x151 : Int32) (s_M83 : SR d ρ M83) (hp0 : 0 ≤ (x82).toInt) (hp1 : (x82).toInt < 160) (hp2 : 160 < (x82).toInt + (n + 1)) (hK1 : ∀ (z0 : Int32) (z1 : Int32) (z2 : Mem), SR d ρ z2 → 0 ≤ (z1).toInt → (z1).toInt ≤ 160 → 160 < (z1).toInt + n → K1_ok z0 z1 z2 ∧ Q (K1_v z0 z1 z2) (K1_m z0 z1 z2)) (hQ : ∀ (x : Int32) (M' : Mem), SR d ρ M' → Q x M') : ok_R_row_j6 x81 x82 M83 x148 K1_ok x151 ∧ Q (f_R_row_j6_v x81 x82 M83 x148 K1_v x151) (f_R_row_j6_m x81 x82 M83 x148 K1_m x151) := by
  unfold ok_R_row_j6 f_R_row_j6_v f_R_row_j6_m
  (try dsimp only)
  refine ps_let ?_
  generalize e_x152 : ((x151 >>> (((2 : Int32) * x148) &&& (31 : Int32))) &&& (3 : Int32)) = x152
  have q0_x152 : 0 ≤ (x152).toInt ∧ (x152).toInt < 4 := by rw [← e_x152]; exact and_lt (by decide)
  exact so_R_row_j2 (d := d) (ρ := ρ) x81 x82 M83 n _ _ _ x152 s_M83 (by first | assumption | decide | ((try simp only [ti_le, ti_lt, ti_eq, Int32.reduceToInt] at *) <;> omega)) (by first | assumption | decide | ((try simp only [ti_le, ti_lt, ti_eq, Int32.reduceToInt] at *) <;> omega)) (by first | assumption | decide | ((try simp only [ti_le, ti_lt, ti_eq, Int32.reduceToInt] at *) <;> omega)) hK1 hQ
set_option maxRecDepth 100000 in
set_option maxHeartbeats 4000000 in
theorem so_R_row_j5 {d : Int32} {ρ : Nat → Int32} {Q : Int32 → Mem → Prop} (a1 : Int32) (x81 : Int32) (x82 : Int32) (M83 : Mem) (x85 : Int32) (n : Nat) (K1_v : Int32 → Int32 → Mem → Int32) (K1_m : Int32 → Int32 → Mem → Mem) (K1_ok : Int32 → Int32 → Mem → Prop) (x147 : Int32) (s_M83 : SR d ρ M83) (hp0 : 0 ≤ (x82).toInt) (hp1 : (x82).toInt < 160) (hp2 : 160 < (x82).toInt + (n + 1)) (hp3 : 0 ≤ (x85).toInt ∧ (x85).toInt ≤ 156) (hp4 : 0 ≤ (a1 - ((M83 5 (x85).toNatClampNeg) - (16 : Int32))).toInt) (hp5 : (a1 - ((M83 5 (x85).toNatClampNeg) - (16 : Int32))).toInt < (x147).toInt) (hp6 : (x147).toInt ≤ 16) (hK1 : ∀ (z0 : Int32) (z1 : Int32) (z2 : Mem), SR d ρ z2 → 0 ≤ (z1).toInt → (z1).toInt ≤ 160 → 160 < (z1).toInt + n → K1_ok z0 z1 z2 ∧ Q (K1_v z0 z1 z2) (K1_m z0 z1 z2)) (hQ : ∀ (x : Int32) (M' : Mem), SR d ρ M' → Q x M') : ok_R_row_j5 a1 x81 x82 M83 x85 K1_ok x147 ∧ Q (f_R_row_j5_v a1 x81 x82 M83 x85 K1_v x147) (f_R_row_j5_m a1 x81 x82 M83 x85 K1_m x147) := by
  unfold ok_R_row_j5 f_R_row_j5_v f_R_row_j5_m
  (try dsimp only)
  refine ps_and (by first | assumption | (rw [vp_iff]; constructor <;> ((try simp only [ti_le, ti_lt, ti_eq, Int32.reduceToInt] at *) <;> omega))) ?_
  refine ps_and (by first | (rw [vp_iff, ti_add (by (try simp only [ti_le, ti_lt, ti_eq, Int32.reduceToInt] at *) <;> omega) (by (try simp only [ti_le, ti_lt, ti_eq, Int32.reduceToInt] at *) <;> omega)]; constructor <;> ((try simp only [ti_le, ti_lt, ti_eq, Int32.reduceToInt] at *) <;> omega)) | (have h8 := q0_x85.a (by assumption); rw [vp_iff, ti_add (by (try simp only [ti_le, ti_lt, ti_eq, Int32.reduceToInt] at *) <;> omega) (by (try simp only [ti_le, ti_lt, ti_eq, Int32.reduceToInt] at *) <;> omega)]; constructor <;> ((try simp only [ti_le, ti_lt, ti_eq, Int32.reduceToInt] at *) <;> omega))) ?_
  have t_ := so_R_number (d := d) (ρ := ρ) M83 x85 (a1 - ((M83 5 x85.toNatClampNeg) - (16 : Int32))) (x82 - ((M83 5 ((x85 + (1 : Int32))).toNatClampNeg) - (8 : Int32))) x147 s_M83 (by first | assumption | exact PBr.a (by assumption) (by assumption)) (by first | assumption | decide | ((try simp only [ti_le, ti_lt, ti_eq, Int32.reduceToInt] at *) <;> omega)) (by first | assumption | decide | ((try simp only [ti_le, ti_lt, ti_eq, Int32.reduceToInt] at *) <;> omega)) (by first | assumption | decide | ((try simp only [ti_le, ti_lt, ti_eq, Int32.reduceToInt] at *) <;> omega))
  refine ps_and t_.1 ?_
  replace t_ := t_.2
  refine ps_let ?_
  generalize e_x148 : f_R_number_v M83 x85 (a1 - ((M83 5 x85.toNatClampNeg) - (16 : Int32))) (x82 - ((M83 5 ((x85 + (1 : Int32))).toNatClampNeg) - (8 : Int32))) x147 = x148 at t_ ⊢
  refine ps_and (by first | (rw [vp_iff, ti_add (by (try simp only [ti_le, ti_lt, ti_eq, Int32.reduceToInt] at *) <;> omega) (by (try simp only [ti_le, ti_lt, ti_eq, Int32.reduceToInt] at *) <;> omega)]; constructor <;> ((try simp only [ti_le, ti_lt, ti_eq, Int32.reduceToInt] at *) <;> omega)) | (have h8 := q0_x85.a (by assumption); rw [vp_iff, ti_add (by (try simp only [ti_le, ti_lt, ti_eq, Int32.reduceToInt] at *) <;> omega) (by (try simp only [ti_le, ti_lt, ti_eq, Int32.reduceToInt] at *) <;> omega)]; constructor <;> ((try simp only [ti_le, ti_lt, ti_eq, Int32.reduceToInt] at *) <;> omega))) ?_
  by_cases hc1 : ((M83 5 ((x85 + (3 : Int32))).toNatClampNeg) &&& (16 : Int32)) ≤ 0
  · skip
    refine ps_brp hc1 ?_
    (try simp only [if_pos hc1])
    exact so_R_row_j6 (d := d) (ρ := ρ) x81 x82 M83 x148 n _ _ _ (M83 0 41) s_M83 (by first | assumption | decide | ((try simp only [ti_le, ti_lt, ti_eq, Int32.reduceToInt] at *) <;> omega)) (by first | assumption | decide | ((try simp only [ti_le, ti_lt, ti_eq, Int32.reduceToInt] at *) <;> omega)) (by first | assumption | decide | ((try simp only [ti_le, ti_lt, ti_eq, Int32.reduceToInt] at *) <;> omega)) hK1 hQ
  · skip
    refine ps_brn hc1 ?_
    (try simp only [if_neg hc1])
    exact so_R_row_j6 (d := d) (ρ := ρ) x81 x82 M83 x148 n _ _ _ (M83 0 42) s_M83 (by first | assumption | decide | ((try simp only [ti_le, ti_lt, ti_eq, Int32.reduceToInt] at *) <;> omega)) (by first | assumption | decide | ((try simp only [ti_le, ti_lt, ti_eq, Int32.reduceToInt] at *) <;> omega)) (by first | assumption | decide | ((try simp only [ti_le, ti_lt, ti_eq, Int32.reduceToInt] at *) <;> omega)) hK1 hQ
set_option maxRecDepth 100000 in
set_option maxHeartbeats 4000000 in
theorem so_R_row_j4 {d : Int32} {ρ : Nat → Int32} {Q : Int32 → Mem → Prop} (a1 : Int32) (x81 : Int32) (x82 : Int32) (M83 : Mem) (x85 : Int32) (n : Nat) (K1_v : Int32 → Int32 → Mem → Int32) (K1_m : Int32 → Int32 → Mem → Mem) (K1_ok : Int32 → Int32 → Mem → Prop) (s_M83 : SR d ρ M83) (hp0 : 0 ≤ (x82).toInt) (hp1 : (x82).toInt < 160) (hp2 : 160 < (x82).toInt + (n + 1)) (hp3 : PBr M83 a1 x85) (hp4 : ¬ x85 < 0) (hK1 : ∀ (z0 : Int32) (z1 : Int32) (z2 : Mem), SR d ρ z2 → 0 ≤ (z1).toInt → (z1).toInt ≤ 160 → 160 < (z1).toInt + n → K1_ok z0 z1 z2 ∧ Q (K1_v z0 z1 z2) (K1_m z0 z1 z2)) (hQ : ∀ (x : Int32) (M' : Mem), SR d ρ M' → Q x M') : ok_R_row_j4 a1 x81 x82 M83 x85 K1_ok ∧ Q (f_R_row_j4_v a1 x81 x82 M83 x85 K1_v) (f_R_row_j4_m a1 x81 x82 M83 x85 K1_m) := by
  unfold ok_R_row_j4 f_R_row_j4_v f_R_row_j4_m
  (try dsimp only)
  by_cases hc1 : ((M83 0 33) &&& (4 : Int32)) ≤ 0
  · skip
    refine ps_brp hc1 ?_
    (try simp only [if_pos hc1])
    exact so_R_row_j5 (d := d) (ρ := ρ) a1 x81 x82 M83 x85 n _ _ _ (8 : Int32) s_M83 (by first | assumption | decide | ((try simp only [ti_le, ti_lt, ti_eq, Int32.reduceToInt] at *) <;> omega)) (by first | assumption | decide | ((try simp only [ti_le, ti_lt, ti_eq, Int32.reduceToInt] at *) <;> omega)) (by first | assumption | decide | ((try simp only [ti_le, ti_lt, ti_eq, Int32.reduceToInt] at *) <;> omega)) (by first | assumption | exact PBr.a (by assumption) (by assumption)) (by exact PBr.b (by assumption) (by assumption)) (by exact PBr.c (by assumption) (by assumption) (by assumption)) (by first | assumption | decide | ((try simp only [ti_le, ti_lt, ti_eq, Int32.reduceToInt] at *) <;> omega)) hK1 hQ
  · skip
    refine ps_brn hc1 ?_
    (try simp only [if_neg hc1])
    exact so_R_row_j5 (d := d) (ρ := ρ) a1 x81 x82 M83 x85 n _ _ _ (16 : Int32) s_M83 (by first | assumption | decide | ((try simp only [ti_le, ti_lt, ti_eq, Int32.reduceToInt] at *) <;> omega)) (by first | assumption | decide | ((try simp only [ti_le, ti_lt, ti_eq, Int32.reduceToInt] at *) <;> omega)) (by first | assumption | decide | ((try simp only [ti_le, ti_lt, ti_eq, Int32.reduceToInt] at *) <;> omega)) (by first | assumption | exact PBr.a (by assumption) (by assumption)) (by exact PBr.b (by assumption) (by assumption)) (by exact PBr.d (by assumption) (by assumption) (by assumption)) (by first | assumption | decide | ((try simp only [ti_le, ti_lt, ti_eq, Int32.reduceToInt] at *) <;> omega)) hK1 hQ
set_option maxRecDepth 100000 in
set_option maxHeartbeats 4000000 in
theorem so_R_row_l1 {d : Int32} {ρ : Nat → Int32} {Q : Int32 → Mem → Prop} (a1 : Int32) (hq0 : 0 ≤ (a1).toInt ∧ (a1).toInt < 144) (hQ : ∀ (x : Int32) (M' : Mem), SR d ρ M' → Q x M') : ∀ (n : Nat) (x81 : Int32) (x82 : Int32) (M83 : Mem), SR d ρ M83 → 0 ≤ (x82).toInt → (x82).toInt ≤ 160 → 160 < (x82).toInt + n → ok_R_row_l1 a1 n x81 x82 M83 ∧ Q (f_R_row_l1_v a1 n x81 x82 M83) (f_R_row_l1_m a1 n x81 x82 M83) := by
  intro n
  induction n with
  | zero =>
    intro x81 x82 M83 s_M83 hL0 hL1 hL2
    exact False.elim (by (try simp only [ti_le, ti_lt, Int32.reduceToInt] at *) <;> omega)
  | succ n ih =>
    intro x81 x82 M83 s_M83 hL0 hL1 hL2
    have hK1 := ih
    show (((((160 : Int32) ≤ x82) → True) ∧ ((¬ (160 : Int32) ≤ x82) → ok_R_background M83 x82 a1 ∧ (∀ x84 : Int32, x84 = f_R_background_v M83 x82 a1 → ok_R_sprite M83 x82 a1 ∧ (∀ x85 : Int32, x85 = f_R_sprite_v M83 x82 a1 → ∀ x86 : Int32, x86 = (((M83 0 40) >>> (((2 : Int32) * x84) &&& (31 : Int32))) &&& (3 : Int32)) → (((x85 < 0) → ok_R_row_j2 x81 x82 M83 (ok_R_row_l1 a1 n) x86) ∧ ((¬ x85 < 0) → vp_in (x85 + (3 : Int32)) 160 ∧ ((((((M83 5 ((x85 + (3 : Int32))).toNatClampNeg) &&& (128 : Int32)) = 0) → ok_R_row_j4 a1 x81 x82 M83 x85 (ok_R_row_l1 a1 n)) ∧ ((¬ ((M83 5 ((x85 + (3 : Int32))).toNatClampNeg) &&& (128 : Int32)) = 0) → (((¬ x84 = 0) → ok_R_row_j2 x81 x82 M83 (ok_R_row_l1 a1 n) x86) ∧ ((x84 = 0) → ok_R_row_j4 a1 x81 x82 M83 x85 (ok_R_row_l1 a1 n))))))))))))) ∧ Q ((if (160 : Int32) ≤ x82 then x81 else let x84 : Int32 := f_R_background_v M83 x82 a1; let x85 : Int32 := f_R_sprite_v M83 x82 a1; let x86 : Int32 := (((M83 0 40) >>> (((2 : Int32) * x84) &&& (31 : Int32))) &&& (3 : Int32)); (if x85 < 0 then (f_R_row_j2_v x81 x82 M83 (f_R_row_l1_v a1 n) x86) else (if ((M83 5 ((x85 + (3 : Int32))).toNatClampNeg) &&& (128 : Int32)) = 0 then (f_R_row_j4_v a1 x81 x82 M83 x85 (f_R_row_l1_v a1 n)) else (if x84 = 0 then (f_R_row_j4_v a1 x81 x82 M83 x85 (f_R_row_l1_v a1 n)) else (f_R_row_j2_v x81 x82 M83 (f_R_row_l1_v a1 n) x86)))))) ((if (160 : Int32) ≤ x82 then M83 else let x84 : Int32 := f_R_background_v M83 x82 a1; let x85 : Int32 := f_R_sprite_v M83 x82 a1; let x86 : Int32 := (((M83 0 40) >>> (((2 : Int32) * x84) &&& (31 : Int32))) &&& (3 : Int32)); (if x85 < 0 then (f_R_row_j2_m x81 x82 M83 (f_R_row_l1_m a1 n) x86) else (if ((M83 5 ((x85 + (3 : Int32))).toNatClampNeg) &&& (128 : Int32)) = 0 then (f_R_row_j4_m a1 x81 x82 M83 x85 (f_R_row_l1_m a1 n)) else (if x84 = 0 then (f_R_row_j4_m a1 x81 x82 M83 x85 (f_R_row_l1_m a1 n)) else (f_R_row_j2_m x81 x82 M83 (f_R_row_l1_m a1 n) x86))))))
    (try dsimp only)
    by_cases hc2 : (160 : Int32) ≤ x82
    · skip
      refine ps_brp hc2 ?_
      refine And.intro trivial ?_
      (try simp only [if_pos hc2])
      exact hQ _ _ s_M83
    · skip
      refine ps_brn hc2 ?_
      (try simp only [if_neg hc2])
      have t_ := so_R_background (d := d) (ρ := ρ) M83 x82 a1 s_M83 (by first | assumption | decide | (constructor <;> ((try simp only [ti_le, ti_lt, ti_eq, Int32.reduceToInt] at *) <;> omega))) (by first | assumption | decide | (constructor <;> ((try simp only [ti_le, ti_lt, ti_eq, Int32.reduceToInt] at *) <;> omega)))
      refine ps_and t_.1 ?_
      replace t_ := t_.2
      refine ps_let ?_
      generalize e_x84 : f_R_background_v M83 x82 a1 = x84 at t_ ⊢
      have t_ := so_R_sprite (d := d) (ρ := ρ) (PB := PBr M83 a1) M83 x82 a1 s_M83 (by first | assumption | exact PBr_m1) (by exact PBr_of)
      refine ps_and t_.1 ?_
      replace t_ := t_.2
      refine ps_let ?_
      generalize e_x85 : f_R_sprite_v M83 x82 a1 = x85 at t_ ⊢
      have q0_x85 := t_
      refine ps_let ?_
      generalize e_x86 : (((M83 0 40) >>> (((2 : Int32) * x84) &&& (31 : Int32))) &&& (3 : Int32)) = x86
      have q0_x86 : 0 ≤ (x86).toInt ∧ (x86).toInt < 4 := by rw [← e_x86]; exact and_lt (by decide)
      by_cases hc3 : x85 < 0
      · skip
        refine ps_brp hc3 ?_
        (try simp only [if_pos hc3])
        exact so_R_row_j2 (d := d) (ρ := ρ) x81 x82 M83 n _ _ _ x86 s_M83 (by first | assumption | decide | ((try simp only [ti_le, ti_lt, ti_eq, Int32.reduceToInt] at *) <;> omega)) (by first | assumption | decide | ((try simp only [ti_le, ti_lt, ti_eq, Int32.reduceToInt] at *) <;> omega)) (by first | assumption | decide | ((try simp only [ti_le, ti_lt, ti_eq, Int32.reduceToInt] at *) <;> omega)) hK1 hQ
      · skip
        refine ps_brn hc3 ?_
        (try simp only [if_neg hc3])
        refine ps_and (by first | (rw [vp_iff, ti_add (by (try simp only [ti_le, ti_lt, ti_eq, Int32.reduceToInt] at *) <;> omega) (by (try simp only [ti_le, ti_lt, ti_eq, Int32.reduceToInt] at *) <;> omega)]; constructor <;> ((try simp only [ti_le, ti_lt, ti_eq, Int32.reduceToInt] at *) <;> omega)) | (have h8 := q0_x85.a (by assumption); rw [vp_iff, ti_add (by (try simp only [ti_le, ti_lt, ti_eq, Int32.reduceToInt] at *) <;> omega) (by (try simp only [ti_le, ti_lt, ti_eq, Int32.reduceToInt] at *) <;> omega)]; constructor <;> ((try simp only [ti_le, ti_lt, ti_eq, Int32.reduceToInt] at *) <;> omega))) ?_
        by_cases hc4 : ((M83 5 ((x85 + (3 : Int32))).toNatClampNeg) &&& (128 : Int32)) = 0
        · skip
          refine ps_brp hc4 ?_
          (try simp only [if_pos hc4])
          exact so_R_row_j4 (d := d) (ρ := ρ) a1 x81 x82 M83 x85 n _ _ _ s_M83 (by first | assumption | decide | ((try simp only [ti_le, ti_lt, ti_eq, Int32.reduceToInt] at *) <;> omega)) (by first | assumption | decide | ((try simp only [ti_le, ti_lt, ti_eq, Int32.reduceToInt] at *) <;> omega)) (by first | assumption | decide | ((try simp only [ti_le, ti_lt, ti_eq, Int32.reduceToInt] at *) <;> omega)) (by assumption) (by first | assumption | decide | ((try simp only [ti_le, ti_lt, ti_eq, Int32.reduceToInt] at *) <;> omega)) hK1 hQ
        · skip
          refine ps_brn hc4 ?_
          (try simp only [if_neg hc4])
          by_cases hc5 : x84 = 0
          · skip
            refine ps_nrp hc5 ?_
            (try simp only [if_pos hc5])
            exact so_R_row_j4 (d := d) (ρ := ρ) a1 x81 x82 M83 x85 n _ _ _ s_M83 (by first | assumption | decide | ((try simp only [ti_le, ti_lt, ti_eq, Int32.reduceToInt] at *) <;> omega)) (by first | assumption | decide | ((try simp only [ti_le, ti_lt, ti_eq, Int32.reduceToInt] at *) <;> omega)) (by first | assumption | decide | ((try simp only [ti_le, ti_lt, ti_eq, Int32.reduceToInt] at *) <;> omega)) (by assumption) (by first | assumption | decide | ((try simp only [ti_le, ti_lt, ti_eq, Int32.reduceToInt] at *) <;> omega)) hK1 hQ
          · skip
            refine ps_nrn hc5 ?_
            (try simp only [if_neg hc5])
            exact so_R_row_j2 (d := d) (ρ := ρ) x81 x82 M83 n _ _ _ x86 s_M83 (by first | assumption | decide | ((try simp only [ti_le, ti_lt, ti_eq, Int32.reduceToInt] at *) <;> omega)) (by first | assumption | decide | ((try simp only [ti_le, ti_lt, ti_eq, Int32.reduceToInt] at *) <;> omega)) (by first | assumption | decide | ((try simp only [ti_le, ti_lt, ti_eq, Int32.reduceToInt] at *) <;> omega)) hK1 hQ
