set_option maxRecDepth 100000 in
set_option maxHeartbeats 4000000 in
theorem so_R_spAnd_j2 {d : Int32} {ρ : Nat → Int32} {Q : Int32 → Mem → Prop} (x1 : Int32) (M2 : Mem) (x10 : Int32) (x14 : Int32) (s_M2 : SR d ρ M2) (hp0 : 0 ≤ (x1).toInt ∧ (x1).toInt < 256) (hQ : ∀ (x : Int32) (M' : Mem), SR d ρ M' → 0 ≤ (x).toInt ∧ (x).toInt < 65536 → Q x M') : Q (f_R_spAnd_j2_v x1 M2 x10 x14) (f_R_spAnd_j2_m x1 M2 x10 x14) := by
  unfold f_R_spAnd_j2_v f_R_spAnd_j2_m
  (try dsimp only)
  have t_ := so_R_flagged (d := d) (ρ := ρ) M2 (0 : Int32) (0 : Int32) x10 x14 s_M2 
  generalize e_M15 : f_R_flagged_m M2 (0 : Int32) (0 : Int32) x10 x14 = M15 at t_ ⊢
  have s_M15 := t_
  have t_ := so_R_signed (d := d) (ρ := ρ) M15 x1 s_M15 (by first | assumption | decide | (constructor <;> ((try simp only [ti_le, ti_lt, ti_eq, Int32.reduceToInt] at *) <;> omega)))
  generalize e_x16 : f_R_signed_v M15 x1 = x16 at t_ ⊢
  have q0_x16 := t_
  exact hQ _ _ s_M15 (by first | assumption | exact and_lt (by decide))
set_option maxRecDepth 100000 in
set_option maxHeartbeats 4000000 in
theorem so_R_spAnd_j1 {d : Int32} {ρ : Nat → Int32} {Q : Int32 → Mem → Prop} (x1 : Int32) (M2 : Mem) (x10 : Int32) (s_M2 : SR d ρ M2) (hp0 : 0 ≤ (x1).toInt ∧ (x1).toInt < 256) (hQ : ∀ (x : Int32) (M' : Mem), SR d ρ M' → 0 ≤ (x).toInt ∧ (x).toInt < 65536 → Q x M') : Q (f_R_spAnd_j1_v x1 M2 x10) (f_R_spAnd_j1_m x1 M2 x10) := by
  unfold f_R_spAnd_j1_v f_R_spAnd_j1_m
  (try dsimp only)
  by_cases hc1 : (((M2 0 18) &&& (255 : Int32)) + x1) ≤ (255 : Int32)
  · skip
    (try simp only [if_pos hc1])
    exact so_R_spAnd_j2 (d := d) (ρ := ρ) x1 M2 x10 (0 : Int32) s_M2 (by first | assumption | decide | (constructor <;> ((try simp only [ti_le, ti_lt, ti_eq, Int32.reduceToInt] at *) <;> omega))) hQ
  · skip
    (try simp only [if_neg hc1])
    exact so_R_spAnd_j2 (d := d) (ρ := ρ) x1 M2 x10 (1 : Int32) s_M2 (by first | assumption | decide | (constructor <;> ((try simp only [ti_le, ti_lt, ti_eq, Int32.reduceToInt] at *) <;> omega))) hQ
set_option maxRecDepth 100000 in
set_option maxHeartbeats 4000000 in
theorem sq_R_spAnd {d : Int32} {ρ : Nat → Int32} {Q : Int32 → Mem → Prop} (M0 : Mem) (s_M0 : SR d ρ M0) (hQ : ∀ (x : Int32) (M' : Mem), SR d ρ M' → 0 ≤ (x).toInt ∧ (x).toInt < 65536 → Q x M') : ok_R_spAnd M0 ∧ Q (f_R_spAnd_v M0) (f_R_spAnd_m M0) := by
  unfold ok_R_spAnd f_R_spAnd_v f_R_spAnd_m
  (try dsimp only)
  have t_ := so_R_next (d := d) (ρ := ρ) M0 s_M0 
  refine And.intro t_.1 ?_
  replace t_ := t_.2
  generalize e_x1 : f_R_next_v M0 = x1 at t_ ⊢
  generalize e_M2 : f_R_next_m M0 = M2 at t_ ⊢
  obtain ⟨s_M2, q0_x1⟩ := t_
  by_cases hc1 : (((M2 0 18) &&& (15 : Int32)) + (x1 &&& (15 : Int32))) ≤ (15 : Int32)
  · skip
    (try simp only [if_pos hc1])
    exact so_R_spAnd_j1 (d := d) (ρ := ρ) x1 M2 (0 : Int32) s_M2 (by first | assumption | decide | (constructor <;> ((try simp only [ti_le, ti_lt, ti_eq, Int32.reduceToInt] at *) <;> omega))) hQ
  · skip
    (try simp only [if_neg hc1])
    exact so_R_spAnd_j1 (d := d) (ρ := ρ) x1 M2 (1 : Int32) s_M2 (by first | assumption | decide | (constructor <;> ((try simp only [ti_le, ti_lt, ti_eq, Int32.reduceToInt] at *) <;> omega))) hQ
theorem so_R_spAnd {d : Int32} {ρ : Nat → Int32} (M0 : Mem) (s_M0 : SR d ρ M0) : ok_R_spAnd M0 ∧ SR d ρ (f_R_spAnd_m M0) ∧ 0 ≤ ((f_R_spAnd_v M0)).toInt ∧ ((f_R_spAnd_v M0)).toInt < 65536 := sq_R_spAnd (d := d) (ρ := ρ) (Q := fun x M' => SR d ρ M' ∧ 0 ≤ (x).toInt ∧ (x).toInt < 65536) M0 s_M0  (fun _ _ h0 h1 => ⟨h0, h1⟩)
set_option maxRecDepth 100000 in
set_option maxHeartbeats 4000000 in
theorem so_R_bits_j1 {d : Int32} {ρ : Nat → Int32} {Q : Mem → Prop} (M24 : Mem) (s_M24 : SR d ρ M24) (hQ : ∀ (M' : Mem), SR d ρ M' → Q M') : Q (f_R_bits_j1_m M24) := by
  unfold f_R_bits_j1_m
  (try dsimp only)
  exact hQ _ s_M24
set_option maxRecDepth 100000 in
set_option maxHeartbeats 4000000 in
theorem so_R_bits_j2 {d : Int32} {ρ : Nat → Int32} {Q : Mem → Prop} (x5 : Int32) (M7 : Mem) (x27 : Int32) (s_M7 : SR d ρ M7) (hp0 : 0 ≤ (x5).toInt ∧ (x5).toInt < 8) (hQ : ∀ (M' : Mem), SR d ρ M' → Q M') : ok_R_bits_j2 x5 M7 x27 ∧ Q (f_R_bits_j2_m x5 M7 x27) := by
  unfold ok_R_bits_j2 f_R_bits_j2_m
  (try dsimp only)
  have t_ := so_R_setOperand (d := d) (ρ := ρ) M7 x5 x27 s_M7 (by first | assumption | decide | (constructor <;> ((try simp only [ti_le, ti_lt, ti_eq, Int32.reduceToInt] at *) <;> omega)))
  refine And.intro t_.1 ?_
  replace t_ := t_.2
  generalize e_M28 : f_R_setOperand_m M7 x5 x27 = M28 at t_ ⊢
  have s_M28 := t_
  exact so_R_bits_j1 (d := d) (ρ := ρ) M28 s_M28 hQ
set_option maxRecDepth 100000 in
set_option maxHeartbeats 4000000 in
theorem so_R_bits_j3 {d : Int32} {ρ : Nat → Int32} {Q : Mem → Prop} (M7 : Mem) (x33 : Int32) (s_M7 : SR d ρ M7) (hQ : ∀ (M' : Mem), SR d ρ M' → Q M') : Q (f_R_bits_j3_m M7 x33) := by
  unfold f_R_bits_j3_m
  (try dsimp only)
  have t_ := so_R_flag (d := d) (ρ := ρ) M7 (128 : Int32) x33 s_M7 (by first | assumption | exact by decide)
  generalize e_M34 : f_R_flag_m M7 (128 : Int32) x33 = M34 at t_ ⊢
  have s_M34 := t_
  have t_ := so_R_flag (d := d) (ρ := ρ) M34 (64 : Int32) (0 : Int32) s_M34 (by first | assumption | exact by decide)
  generalize e_M35 : f_R_flag_m M34 (64 : Int32) (0 : Int32) = M35 at t_ ⊢
  have s_M35 := t_
  have t_ := so_R_flag (d := d) (ρ := ρ) M35 (32 : Int32) (1 : Int32) s_M35 (by first | assumption | exact by decide)
  generalize e_M36 : f_R_flag_m M35 (32 : Int32) (1 : Int32) = M36 at t_ ⊢
  have s_M36 := t_
  exact so_R_bits_j1 (d := d) (ρ := ρ) M36 s_M36 hQ
set_option maxRecDepth 100000 in
set_option maxHeartbeats 4000000 in
theorem sq_R_bits {d : Int32} {ρ : Nat → Int32} {Q : Mem → Prop} (M0 : Mem) (s_M0 : SR d ρ M0) (hQ : ∀ (M' : Mem), SR d ρ M' → Q M') : ok_R_bits M0 ∧ Q (f_R_bits_m M0) := by
  unfold ok_R_bits f_R_bits_m
  (try dsimp only)
  have t_ := so_R_next (d := d) (ρ := ρ) M0 s_M0 
  refine ps_and t_.1 ?_
  replace t_ := t_.2
  refine ps_let ?_
  refine ps_let ?_
  generalize e_x1 : f_R_next_v M0 = x1 at t_ ⊢
  generalize e_M2 : f_R_next_m M0 = M2 at t_ ⊢
  obtain ⟨s_M2, q0_x1⟩ := t_
  refine ps_let ?_
  generalize e_x3 : (x1 >>> ((6 : Int32) &&& (31 : Int32))) = x3
  refine ps_let ?_
  generalize e_x4 : ((x1 >>> ((3 : Int32) &&& (31 : Int32))) &&& (7 : Int32)) = x4
  have q0_x4 : 0 ≤ (x4).toInt ∧ (x4).toInt < 8 := by rw [← e_x4]; exact and_lt (by decide)
  refine ps_let ?_
  generalize e_x5 : (x1 &&& (7 : Int32)) = x5
  have q0_x5 : 0 ≤ (x5).toInt ∧ (x5).toInt < 8 := by rw [← e_x5]; exact and_lt (by decide)
  have t_ := so_R_operand (d := d) (ρ := ρ) M2 x5 s_M2 (by first | assumption | decide | (constructor <;> ((try simp only [ti_le, ti_lt, ti_eq, Int32.reduceToInt] at *) <;> omega)))
  refine ps_and t_.1 ?_
  replace t_ := t_.2
  refine ps_let ?_
  refine ps_let ?_
  generalize e_x6 : f_R_operand_v M2 x5 = x6 at t_ ⊢
  generalize e_M7 : f_R_operand_m M2 x5 = M7 at t_ ⊢
  obtain ⟨s_M7, q0_x6⟩ := t_
  by_cases hc1 : x3 = 0
  · skip
    refine ps_nrp hc1 ?_
    (try simp only [if_pos hc1])
    have t_ := so_R_turned (d := d) (ρ := ρ) M7 x4 x6 s_M7 
    refine ps_and t_.1 ?_
    replace t_ := t_.2
    refine ps_let ?_
    refine ps_let ?_
    generalize e_x37 : f_R_turned_v M7 x4 x6 = x37 at t_ ⊢
    generalize e_M38 : f_R_turned_m M7 x4 x6 = M38 at t_ ⊢
    obtain ⟨s_M38, q0_x37⟩ := t_
    have t_ := so_R_setOperand (d := d) (ρ := ρ) M38 x5 x37 s_M38 (by first | assumption | decide | (constructor <;> ((try simp only [ti_le, ti_lt, ti_eq, Int32.reduceToInt] at *) <;> omega)))
    refine And.intro t_.1 ?_
    replace t_ := t_.2
    generalize e_M39 : f_R_setOperand_m M38 x5 x37 = M39 at t_ ⊢
    have s_M39 := t_
    exact so_R_bits_j1 (d := d) (ρ := ρ) M39 s_M39 hQ
  · skip
    refine ps_nrn hc1 ?_
    (try simp only [if_neg hc1])
    by_cases hc2 : x3 = (1 : Int32)
    · skip
      refine ps_nrp hc2 ?_
      refine And.intro trivial ?_
      (try simp only [if_pos hc2])
      by_cases hc3 : ((x6 >>> (x4 &&& (31 : Int32))) &&& (1 : Int32)) = 0
      · skip
        (try simp only [if_pos hc3])
        exact so_R_bits_j3 (d := d) (ρ := ρ) M7 (1 : Int32) s_M7 hQ
      · skip
        (try simp only [if_neg hc3])
        exact so_R_bits_j3 (d := d) (ρ := ρ) M7 (0 : Int32) s_M7 hQ
    · skip
      refine ps_nrn hc2 ?_
      (try simp only [if_neg hc2])
      by_cases hc3 : x3 = (2 : Int32)
      · skip
        refine ps_nrp hc3 ?_
        (try simp only [if_pos hc3])
        exact so_R_bits_j2 (d := d) (ρ := ρ) x5 M7 (x6 &&& (((1 : Int32) <<< (x4 &&& (31 : Int32))) ^^^ (-1 : Int32))) s_M7 (by first | assumption | decide | (constructor <;> ((try simp only [ti_le, ti_lt, ti_eq, Int32.reduceToInt] at *) <;> omega))) hQ
      · skip
        refine ps_nrn hc3 ?_
        (try simp only [if_neg hc3])
        exact so_R_bits_j2 (d := d) (ρ := ρ) x5 M7 (x6 ||| ((1 : Int32) <<< (x4 &&& (31 : Int32)))) s_M7 (by first | assumption | decide | (constructor <;> ((try simp only [ti_le, ti_lt, ti_eq, Int32.reduceToInt] at *) <;> omega))) hQ
theorem so_R_bits {d : Int32} {ρ : Nat → Int32} (M0 : Mem) (s_M0 : SR d ρ M0) : ok_R_bits M0 ∧ SR d ρ (f_R_bits_m M0) := sq_R_bits (d := d) (ρ := ρ) (Q := fun M' => SR d ρ M') M0 s_M0  (fun _ h0 => h0)
set_option maxRecDepth 100000 in
set_option maxHeartbeats 4000000 in
theorem so_R_third_j1 {d : Int32} {ρ : Nat → Int32} {Q : Mem → Prop} (M90 : Mem) (s_M90 : SR d ρ M90) (hQ : ∀ (M' : Mem), SR d ρ M' → Q M') : Q (f_R_third_j1_m M90) := by
  unfold f_R_third_j1_m
  (try dsimp only)
  exact hQ _ s_M90
set_option maxRecDepth 100000 in
set_option maxHeartbeats 4000000 in
theorem so_R_third_j2 {d : Int32} {ρ : Nat → Int32} {Q : Mem → Prop} (M129 : Mem) (s_M129 : SR d ρ M129) (hQ : ∀ (M' : Mem), SR d ρ M' → Q M') : Q (f_R_third_j2_m M129) := by
  unfold f_R_third_j2_m
  (try dsimp only)
  exact so_R_third_j1 (d := d) (ρ := ρ) M129 s_M129 hQ
set_option maxRecDepth 100000 in
set_option maxHeartbeats 4000000 in
theorem so_R_third_j3 {d : Int32} {ρ : Nat → Int32} {Q : Mem → Prop} (M0 : Mem) (x169 : Int32) (s_M0 : SR d ρ M0) (hQ : ∀ (M' : Mem), SR d ρ M' → Q M') : ok_R_third_j3 M0 x169 ∧ Q (f_R_third_j3_m M0 x169) := by
  unfold ok_R_third_j3 f_R_third_j3_m
  (try dsimp only)
  have t_ := so_R_push (d := d) (ρ := ρ) M0 x169 s_M0 
  refine And.intro t_.1 ?_
  replace t_ := t_.2
  generalize e_M170 : f_R_push_m M0 x169 = M170 at t_ ⊢
  have s_M170 := t_
  have s_M171 : SR d ρ (mst M170 0 20 ((M170 0 20) + (1 : Int32))) := SR.sf s_M170 (by decide) (any_rng _)
  generalize e_M171 : mst M170 0 20 ((M170 0 20) + (1 : Int32)) = M171 at s_M171 ⊢
  exact so_R_third_j1 (d := d) (ρ := ρ) M171 s_M171 hQ
set_option maxRecDepth 100000 in
set_option maxHeartbeats 4000000 in
theorem sq_R_third {d : Int32} {ρ : Nat → Int32} {Q : Mem → Prop} (M0 : Mem) (a1 : Int32) (a2 : Int32) (s_M0 : SR d ρ M0) (hp0 : 0 ≤ (a1).toInt ∧ (a1).toInt < 8) (hQ : ∀ (M' : Mem), SR d ρ M' → Q M') : ok_R_third M0 a1 a2 ∧ Q (f_R_third_m M0 a1 a2) := by
  unfold ok_R_third f_R_third_m
  (try dsimp only)
  refine ps_let ?_
  generalize e_x1 : (a1 &&& (1 : Int32)) = x1
  have q0_x1 : 0 ≤ (x1).toInt ∧ (x1).toInt < 2 := by rw [← e_x1]; exact and_lt (by decide)
  refine ps_let ?_
  generalize e_x2 : (a1 >>> ((1 : Int32) &&& (31 : Int32))) = x2
  have q0_x2 : 0 ≤ (x2).toInt ∧ (x2).toInt < 4 := by rw [← e_x2]; have h9 := shr1_rng hp0; omega
  by_cases hc1 : (a2 = (0 : Int32))
  · skip
    refine ps_brp hc1 ?_
    (try simp only [if_pos hc1])
    by_cases hc2 : (4 : Int32) ≤ a1
    · skip
      refine ps_brp hc2 ?_
      (try simp only [if_pos hc2])
      by_cases hc3 : a1 = (4 : Int32)
      · skip
        refine ps_nrp hc3 ?_
        (try simp only [if_pos hc3])
        have t_ := so_R_next (d := d) (ρ := ρ) M0 s_M0 
        refine ps_and t_.1 ?_
        replace t_ := t_.2
        refine ps_let ?_
        refine ps_let ?_
        generalize e_x104 : f_R_next_v M0 = x104 at t_ ⊢
        generalize e_M105 : f_R_next_m M0 = M105 at t_ ⊢
        obtain ⟨s_M105, q0_x104⟩ := t_
        have t_ := so_R_writes (d := d) (ρ := ρ) M105 ((65280 : Int32) + x104) (M105 8 7) s_M105 
        refine And.intro t_.1 ?_
        replace t_ := t_.2
        generalize e_M106 : f_R_writes_m M105 ((65280 : Int32) + x104) (M105 8 7) = M106 at t_ ⊢
        have s_M106 := t_
        exact so_R_third_j1 (d := d) (ρ := ρ) M106 s_M106 hQ
      · skip
        refine ps_nrn hc3 ?_
        (try simp only [if_neg hc3])
        by_cases hc4 : a1 = (6 : Int32)
        · skip
          refine ps_nrp hc4 ?_
          (try simp only [if_pos hc4])
          have t_ := so_R_next (d := d) (ρ := ρ) M0 s_M0 
          refine ps_and t_.1 ?_
          replace t_ := t_.2
          refine ps_let ?_
          refine ps_let ?_
          generalize e_x99 : f_R_next_v M0 = x99 at t_ ⊢
          generalize e_M100 : f_R_next_m M0 = M100 at t_ ⊢
          obtain ⟨s_M100, q0_x99⟩ := t_
          have t_ := so_R_reads (d := d) (ρ := ρ) M100 ((65280 : Int32) + x99) s_M100 
          refine And.intro t_.1 ?_
          replace t_ := t_.2
          generalize e_x101 : f_R_reads_v M100 ((65280 : Int32) + x99) = x101 at t_ ⊢
          generalize e_M102 : f_R_reads_m M100 ((65280 : Int32) + x99) = M102 at t_ ⊢
          obtain ⟨s_M102, q0_x101⟩ := t_
          have s_M103 : SR d ρ (mst M102 8 7 x101) := SR.sr s_M102 (by assumption)
          generalize e_M103 : mst M102 8 7 x101 = M103 at s_M103 ⊢
          exact so_R_third_j1 (d := d) (ρ := ρ) M103 s_M103 hQ
        · skip
          refine ps_nrn hc4 ?_
          (try simp only [if_neg hc4])
          by_cases hc5 : a1 = (5 : Int32)
          · skip
            refine ps_nrp hc5 ?_
            (try simp only [if_pos hc5])
            have t_ := so_R_spAnd (d := d) (ρ := ρ) M0 s_M0 
            refine And.intro t_.1 ?_
            replace t_ := t_.2
            generalize e_x95 : f_R_spAnd_v M0 = x95 at t_ ⊢
            generalize e_M96 : f_R_spAnd_m M0 = M96 at t_ ⊢
            obtain ⟨s_M96, q0_x95⟩ := t_
            have s_M97 : SR d ρ (mst M96 0 18 x95) := SR.sf s_M96 (by decide) (by assumption)
            generalize e_M97 : mst M96 0 18 x95 = M97 at s_M97 ⊢
            have s_M98 : SR d ρ (mst M97 0 20 ((M97 0 20) + (2 : Int32))) := SR.sf s_M97 (by decide) (any_rng _)
            generalize e_M98 : mst M97 0 20 ((M97 0 20) + (2 : Int32)) = M98 at s_M98 ⊢
            exact so_R_third_j1 (d := d) (ρ := ρ) M98 s_M98 hQ
          · skip
            refine ps_nrn hc5 ?_
            (try simp only [if_neg hc5])
            have t_ := so_R_spAnd (d := d) (ρ := ρ) M0 s_M0 
            refine ps_and t_.1 ?_
            replace t_ := t_.2
            refine ps_let ?_
            refine ps_let ?_
            generalize e_x91 : f_R_spAnd_v M0 = x91 at t_ ⊢
            generalize e_M92 : f_R_spAnd_m M0 = M92 at t_ ⊢
            obtain ⟨s_M92, q0_x91⟩ := t_
            have t_ := so_R_setPair (d := d) (ρ := ρ) M92 (2 : Int32) x91 s_M92 (by first | assumption | exact by decide)
            refine And.intro t_.1 ?_
            replace t_ := t_.2
            generalize e_M93 : f_R_setPair_m M92 (2 : Int32) x91 = M93 at t_ ⊢
            have s_M93 := t_
            have s_M94 : SR d ρ (mst M93 0 20 ((M93 0 20) + (1 : Int32))) := SR.sf s_M93 (by decide) (any_rng _)
            generalize e_M94 : mst M93 0 20 ((M93 0 20) + (1 : Int32)) = M94 at s_M94 ⊢
            exact so_R_third_j1 (d := d) (ρ := ρ) M94 s_M94 hQ
    · skip
      refine ps_brn hc2 ?_
      (try simp only [if_neg hc2])
      refine ps_let ?_
      have s_M107 : SR d ρ (mst M0 0 20 ((M0 0 20) + (1 : Int32))) := SR.sf s_M0 (by decide) (any_rng _)
      generalize e_M107 : mst M0 0 20 ((M0 0 20) + (1 : Int32)) = M107 at s_M107 ⊢
      have t_ := so_R_holds (d := d) (ρ := ρ) M107 a1 s_M107 
      refine ps_and t_.1 ?_
      replace t_ := t_.2
      refine ps_let ?_
      generalize e_x108 : f_R_holds_v M107 a1 = x108 at t_ ⊢
      by_cases hc3 : x108 = 0
      · skip
        refine ps_brp hc3 ?_
        refine And.intro trivial ?_
        (try simp only [if_pos hc3])
        exact so_R_third_j1 (d := d) (ρ := ρ) M107 s_M107 hQ
      · skip
        refine ps_brn hc3 ?_
        (try simp only [if_neg hc3])
        have t_ := so_R_pop (d := d) (ρ := ρ) M107 s_M107 
        refine And.intro t_.1 ?_
        replace t_ := t_.2
        generalize e_x109 : f_R_pop_v M107 = x109 at t_ ⊢
        generalize e_M110 : f_R_pop_m M107 = M110 at t_ ⊢
        obtain ⟨s_M110, q0_x109⟩ := t_
        have s_M111 : SR d ρ (mst M110 0 19 x109) := SR.sf s_M110 (by decide) (by assumption)
        generalize e_M111 : mst M110 0 19 x109 = M111 at s_M111 ⊢
        have s_M112 : SR d ρ (mst M111 0 20 ((M111 0 20) + (1 : Int32))) := SR.sf s_M111 (by decide) (any_rng _)
        generalize e_M112 : mst M111 0 20 ((M111 0 20) + (1 : Int32)) = M112 at s_M112 ⊢
        exact so_R_third_j1 (d := d) (ρ := ρ) M112 s_M112 hQ
  · skip
    refine ps_brn hc1 ?_
    (try simp only [if_neg hc1])
    by_cases hc2 : (a2 = (1 : Int32))
    · skip
      refine ps_brp hc2 ?_
      (try simp only [if_pos hc2])
      by_cases hc3 : x1 = 0
      · skip
        refine ps_nrp hc3 ?_
        (try simp only [if_pos hc3])
        have t_ := so_R_pop (d := d) (ρ := ρ) M0 s_M0 
        refine ps_and t_.1 ?_
        replace t_ := t_.2
        refine ps_let ?_
        refine ps_let ?_
        generalize e_x123 : f_R_pop_v M0 = x123 at t_ ⊢
        generalize e_M124 : f_R_pop_m M0 = M124 at t_ ⊢
        obtain ⟨s_M124, q0_x123⟩ := t_
        by_cases hc4 : (3 : Int32) ≤ x2
        · skip
          refine ps_brp hc4 ?_
          refine And.intro trivial ?_
          (try simp only [if_pos hc4])
          have s_M130 : SR d ρ (mst M124 8 7 (x123 >>> ((8 : Int32) &&& (31 : Int32)))) := SR.sr s_M124 (shr8_rng (by assumption))
          generalize e_M130 : mst M124 8 7 (x123 >>> ((8 : Int32) &&& (31 : Int32))) = M130 at s_M130 ⊢
          have s_M131 : SR d ρ (mst M130 8 6 (x123 &&& (240 : Int32))) := SR.sr s_M130 (and_lt (by decide))
          generalize e_M131 : mst M130 8 6 (x123 &&& (240 : Int32)) = M131 at s_M131 ⊢
          exact so_R_third_j2 (d := d) (ρ := ρ) M131 s_M131 hQ
        · skip
          refine ps_brn hc4 ?_
          (try simp only [if_neg hc4])
          have t_ := so_R_setPair (d := d) (ρ := ρ) M124 x2 x123 s_M124 (by first | assumption | decide | (constructor <;> ((try simp only [ti_le, ti_lt, ti_eq, Int32.reduceToInt] at *) <;> omega)))
          refine And.intro t_.1 ?_
          replace t_ := t_.2
          generalize e_M132 : f_R_setPair_m M124 x2 x123 = M132 at t_ ⊢
          have s_M132 := t_
          exact so_R_third_j2 (d := d) (ρ := ρ) M132 s_M132 hQ
      · skip
        refine ps_nrn hc3 ?_
        (try simp only [if_neg hc3])
        by_cases hc4 : (2 : Int32) ≤ x2
        · skip
          refine ps_brp hc4 ?_
          (try simp only [if_pos hc4])
          by_cases hc5 : x2 = (2 : Int32)
          · skip
            refine ps_nrp hc5 ?_
            (try simp only [if_pos hc5])
            have t_ := so_R_pair (d := d) (ρ := ρ) M0 (2 : Int32) s_M0 (by first | assumption | exact by decide)
            refine And.intro t_.1 ?_
            replace t_ := t_.2
            generalize e_x116 : f_R_pair_v M0 (2 : Int32) = x116 at t_ ⊢
            have q0_x116 := t_
            have s_M117 : SR d ρ (mst M0 0 19 x116) := SR.sf s_M0 (by decide) (by assumption)
            generalize e_M117 : mst M0 0 19 x116 = M117 at s_M117 ⊢
            exact so_R_third_j1 (d := d) (ρ := ρ) M117 s_M117 hQ
          · skip
            refine ps_nrn hc5 ?_
            (try simp only [if_neg hc5])
            have t_ := so_R_pair (d := d) (ρ := ρ) M0 (2 : Int32) s_M0 (by first | assumption | exact by decide)
            refine And.intro t_.1 ?_
            replace t_ := t_.2
            generalize e_x113 : f_R_pair_v M0 (2 : Int32) = x113 at t_ ⊢
            have q0_x113 := t_
            have s_M114 : SR d ρ (mst M0 0 18 x113) := SR.sf s_M0 (by decide) (by assumption)
            generalize e_M114 : mst M0 0 18 x113 = M114 at s_M114 ⊢
            have s_M115 : SR d ρ (mst M114 0 20 ((M114 0 20) + (1 : Int32))) := SR.sf s_M114 (by decide) (any_rng _)
            generalize e_M115 : mst M114 0 20 ((M114 0 20) + (1 : Int32)) = M115 at s_M115 ⊢
            exact so_R_third_j1 (d := d) (ρ := ρ) M115 s_M115 hQ
        · skip
          refine ps_brn hc4 ?_
          (try simp only [if_neg hc4])
          have t_ := so_R_pop (d := d) (ρ := ρ) M0 s_M0 
          refine And.intro t_.1 ?_
          replace t_ := t_.2
          generalize e_x118 : f_R_pop_v M0 = x118 at t_ ⊢
          generalize e_M119 : f_R_pop_m M0 = M119 at t_ ⊢
          obtain ⟨s_M119, q0_x118⟩ := t_
          have s_M120 : SR d ρ (mst M119 0 19 x118) := SR.sf s_M119 (by decide) (by assumption)
          generalize e_M120 : mst M119 0 19 x118 = M120 at s_M120 ⊢
          have s_M121 : SR d ρ (mst M120 0 20 ((M120 0 20) + (1 : Int32))) := SR.sf s_M120 (by decide) (any_rng _)
          generalize e_M121 : mst M120 0 20 ((M120 0 20) + (1 : Int32)) = M121 at s_M121 ⊢
          by_cases hc5 : x2 = (1 : Int32)
          · skip
            (try simp only [if_pos hc5])
            have s_M122 : SR d ρ (mst M121 0 21 (1 : Int32)) := SR.sf s_M121 (by decide) (any_rng _)
            generalize e_M122 : mst M121 0 21 (1 : Int32) = M122 at s_M122 ⊢
            exact so_R_third_j1 (d := d) (ρ := ρ) M122 s_M122 hQ
          · skip
            (try simp only [if_neg hc5])
            exact so_R_third_j1 (d := d) (ρ := ρ) M121 s_M121 hQ
    · skip
      refine ps_brn hc2 ?_
      (try simp only [if_neg hc2])
      by_cases hc3 : (a2 = (2 : Int32))
      · skip
        refine ps_brp hc3 ?_
        (try simp only [if_pos hc3])
        by_cases hc4 : (4 : Int32) ≤ a1
        · skip
          refine ps_brp hc4 ?_
          (try simp only [if_pos hc4])
          by_cases hc5 : a1 = (4 : Int32)
          · skip
            refine ps_nrp hc5 ?_
            (try simp only [if_pos hc5])
            have t_ := so_R_writes (d := d) (ρ := ρ) M0 ((65280 : Int32) + (M0 8 1)) (M0 8 7) s_M0 
            refine And.intro t_.1 ?_
            replace t_ := t_.2
            generalize e_M144 : f_R_writes_m M0 ((65280 : Int32) + (M0 8 1)) (M0 8 7) = M144 at t_ ⊢
            have s_M144 := t_
            exact so_R_third_j1 (d := d) (ρ := ρ) M144 s_M144 hQ
          · skip
            refine ps_nrn hc5 ?_
            (try simp only [if_neg hc5])
            by_cases hc6 : a1 = (6 : Int32)
            · skip
              refine ps_nrp hc6 ?_
              (try simp only [if_pos hc6])
              have t_ := so_R_reads (d := d) (ρ := ρ) M0 ((65280 : Int32) + (M0 8 1)) s_M0 
              refine And.intro t_.1 ?_
              replace t_ := t_.2
              generalize e_x141 : f_R_reads_v M0 ((65280 : Int32) + (M0 8 1)) = x141 at t_ ⊢
              generalize e_M142 : f_R_reads_m M0 ((65280 : Int32) + (M0 8 1)) = M142 at t_ ⊢
              obtain ⟨s_M142, q0_x141⟩ := t_
              have s_M143 : SR d ρ (mst M142 8 7 x141) := SR.sr s_M142 (by assumption)
              generalize e_M143 : mst M142 8 7 x141 = M143 at s_M143 ⊢
              exact so_R_third_j1 (d := d) (ρ := ρ) M143 s_M143 hQ
            · skip
              refine ps_nrn hc6 ?_
              (try simp only [if_neg hc6])
              by_cases hc7 : a1 = (5 : Int32)
              · skip
                refine ps_nrp hc7 ?_
                (try simp only [if_pos hc7])
                have t_ := so_R_nextWord (d := d) (ρ := ρ) M0 s_M0 
                refine ps_and t_.1 ?_
                replace t_ := t_.2
                refine ps_let ?_
                refine ps_let ?_
                generalize e_x138 : f_R_nextWord_v M0 = x138 at t_ ⊢
                generalize e_M139 : f_R_nextWord_m M0 = M139 at t_ ⊢
                obtain ⟨s_M139, q0_x138⟩ := t_
                have t_ := so_R_writes (d := d) (ρ := ρ) M139 x138 (M139 8 7) s_M139 
                refine And.intro t_.1 ?_
                replace t_ := t_.2
                generalize e_M140 : f_R_writes_m M139 x138 (M139 8 7) = M140 at t_ ⊢
                have s_M140 := t_
                exact so_R_third_j1 (d := d) (ρ := ρ) M140 s_M140 hQ
              · skip
                refine ps_nrn hc7 ?_
                (try simp only [if_neg hc7])
                have t_ := so_R_nextWord (d := d) (ρ := ρ) M0 s_M0 
                refine ps_and t_.1 ?_
                replace t_ := t_.2
                refine ps_let ?_
                refine ps_let ?_
                generalize e_x133 : f_R_nextWord_v M0 = x133 at t_ ⊢
                generalize e_M134 : f_R_nextWord_m M0 = M134 at t_ ⊢
                obtain ⟨s_M134, q0_x133⟩ := t_
                have t_ := so_R_reads (d := d) (ρ := ρ) M134 x133 s_M134 
                refine And.intro t_.1 ?_
                replace t_ := t_.2
                generalize e_x135 : f_R_reads_v M134 x133 = x135 at t_ ⊢
                generalize e_M136 : f_R_reads_m M134 x133 = M136 at t_ ⊢
                obtain ⟨s_M136, q0_x135⟩ := t_
                have s_M137 : SR d ρ (mst M136 8 7 x135) := SR.sr s_M136 (by assumption)
                generalize e_M137 : mst M136 8 7 x135 = M137 at s_M137 ⊢
                exact so_R_third_j1 (d := d) (ρ := ρ) M137 s_M137 hQ
        · skip
          refine ps_brn hc4 ?_
          (try simp only [if_neg hc4])
          have t_ := so_R_nextWord (d := d) (ρ := ρ) M0 s_M0 
          refine ps_and t_.1 ?_
          replace t_ := t_.2
          refine ps_let ?_
          refine ps_let ?_
          generalize e_x145 : f_R_nextWord_v M0 = x145 at t_ ⊢
          generalize e_M146 : f_R_nextWord_m M0 = M146 at t_ ⊢
          obtain ⟨s_M146, q0_x145⟩ := t_
          have t_ := so_R_holds (d := d) (ρ := ρ) M146 a1 s_M146 
          refine And.intro t_.1 ?_
          replace t_ := t_.2
          generalize e_x147 : f_R_holds_v M146 a1 = x147 at t_ ⊢
          have t_ := so_R_jumps (d := d) (ρ := ρ) M146 x147 x145 s_M146 
          generalize e_M148 : f_R_jumps_m M146 x147 x145 = M148 at t_ ⊢
          have s_M148 := t_
          exact so_R_third_j1 (d := d) (ρ := ρ) M148 s_M148 hQ
      · skip
        refine ps_brn hc3 ?_
        (try simp only [if_neg hc3])
        by_cases hc4 : (a2 = (3 : Int32))
        · skip
          refine ps_brp hc4 ?_
          (try simp only [if_pos hc4])
          by_cases hc5 : a1 = 0
          · skip
            refine ps_nrp hc5 ?_
            (try simp only [if_pos hc5])
            have t_ := so_R_nextWord (d := d) (ρ := ρ) M0 s_M0 
            refine And.intro t_.1 ?_
            replace t_ := t_.2
            generalize e_x153 : f_R_nextWord_v M0 = x153 at t_ ⊢
            generalize e_M154 : f_R_nextWord_m M0 = M154 at t_ ⊢
            obtain ⟨s_M154, q0_x153⟩ := t_
            have t_ := so_R_jumps (d := d) (ρ := ρ) M154 (1 : Int32) x153 s_M154 
            generalize e_M155 : f_R_jumps_m M154 (1 : Int32) x153 = M155 at t_ ⊢
            have s_M155 := t_
            exact so_R_third_j1 (d := d) (ρ := ρ) M155 s_M155 hQ
          · skip
            refine ps_nrn hc5 ?_
            (try simp only [if_neg hc5])
            by_cases hc6 : a1 = (1 : Int32)
            · skip
              refine ps_nrp hc6 ?_
              (try simp only [if_pos hc6])
              have t_ := so_R_bits (d := d) (ρ := ρ) M0 s_M0 
              refine And.intro t_.1 ?_
              replace t_ := t_.2
              generalize e_M152 : f_R_bits_m M0 = M152 at t_ ⊢
              have s_M152 := t_
              exact so_R_third_j1 (d := d) (ρ := ρ) M152 s_M152 hQ
            · skip
              refine ps_nrn hc6 ?_
              refine And.intro trivial ?_
              (try simp only [if_neg hc6])
              by_cases hc7 : a1 = (6 : Int32)
              · skip
                (try simp only [if_pos hc7])
                have s_M151 : SR d ρ (mst M0 0 21 (0 : Int32)) := SR.sf s_M0 (by decide) (any_rng _)
                generalize e_M151 : mst M0 0 21 (0 : Int32) = M151 at s_M151 ⊢
                exact so_R_third_j1 (d := d) (ρ := ρ) M151 s_M151 hQ
              · skip
                (try simp only [if_neg hc7])
                by_cases hc8 : a1 = (7 : Int32)
                · skip
                  (try simp only [if_pos hc8])
                  have s_M150 : SR d ρ (mst M0 0 24 (1 : Int32)) := SR.sf s_M0 (by decide) (any_rng _)
                  generalize e_M150 : mst M0 0 24 (1 : Int32) = M150 at s_M150 ⊢
                  exact so_R_third_j1 (d := d) (ρ := ρ) M150 s_M150 hQ
                · skip
                  (try simp only [if_neg hc8])
                  have s_M149 : SR d ρ (mst M0 0 23 (1 : Int32)) := SR.sf s_M0 (by decide) (any_rng _)
                  generalize e_M149 : mst M0 0 23 (1 : Int32) = M149 at s_M149 ⊢
                  exact so_R_third_j1 (d := d) (ρ := ρ) M149 s_M149 hQ
        · skip
          refine ps_brn hc4 ?_
          (try simp only [if_neg hc4])
          by_cases hc5 : (a2 = (4 : Int32))
          · skip
            refine ps_brp hc5 ?_
            (try simp only [if_pos hc5])
            by_cases hc6 : a1 ≤ (3 : Int32)
            · skip
              refine ps_brp hc6 ?_
              (try simp only [if_pos hc6])
              have t_ := so_R_nextWord (d := d) (ρ := ρ) M0 s_M0 
              refine ps_and t_.1 ?_
              replace t_ := t_.2
              refine ps_let ?_
              refine ps_let ?_
              generalize e_x156 : f_R_nextWord_v M0 = x156 at t_ ⊢
              generalize e_M157 : f_R_nextWord_m M0 = M157 at t_ ⊢
              obtain ⟨s_M157, q0_x156⟩ := t_
              have t_ := so_R_holds (d := d) (ρ := ρ) M157 a1 s_M157 
              refine ps_and t_.1 ?_
              replace t_ := t_.2
              refine ps_let ?_
              generalize e_x158 : f_R_holds_v M157 a1 = x158 at t_ ⊢
              have t_ := so_R_calls (d := d) (ρ := ρ) M157 x158 x156 s_M157 (by first | assumption | decide | (constructor <;> ((try simp only [ti_le, ti_lt, ti_eq, Int32.reduceToInt] at *) <;> omega)))
              refine And.intro t_.1 ?_
              replace t_ := t_.2
              generalize e_M159 : f_R_calls_m M157 x158 x156 = M159 at t_ ⊢
              have s_M159 := t_
              exact so_R_third_j1 (d := d) (ρ := ρ) M159 s_M159 hQ
            · skip
              refine ps_brn hc6 ?_
              refine And.intro trivial ?_
              (try simp only [if_neg hc6])
              have s_M160 : SR d ρ (mst M0 0 23 (1 : Int32)) := SR.sf s_M0 (by decide) (any_rng _)
              generalize e_M160 : mst M0 0 23 (1 : Int32) = M160 at s_M160 ⊢
              exact so_R_third_j1 (d := d) (ρ := ρ) M160 s_M160 hQ
          · skip
            refine ps_brn hc5 ?_
            (try simp only [if_neg hc5])
            by_cases hc6 : (a2 = (5 : Int32))
            · skip
              refine ps_brp hc6 ?_
              (try simp only [if_pos hc6])
              by_cases hc7 : x1 = 0
              · skip
                refine ps_nrp hc7 ?_
                (try simp only [if_pos hc7])
                by_cases hc8 : (3 : Int32) ≤ x2
                · skip
                  refine ps_brp hc8 ?_
                  (try simp only [if_pos hc8])
                  exact so_R_third_j3 (d := d) (ρ := ρ) M0 (((M0 8 7) <<< ((8 : Int32) &&& (31 : Int32))) ||| (M0 8 6)) s_M0 hQ
                · skip
                  refine ps_brn hc8 ?_
                  (try simp only [if_neg hc8])
                  have t_ := so_R_pair (d := d) (ρ := ρ) M0 x2 s_M0 (by first | assumption | decide | (constructor <;> ((try simp only [ti_le, ti_lt, ti_eq, Int32.reduceToInt] at *) <;> omega)))
                  refine ps_and t_.1 ?_
                  replace t_ := t_.2
                  refine ps_let ?_
                  generalize e_x172 : f_R_pair_v M0 x2 = x172 at t_ ⊢
                  have q0_x172 := t_
                  exact so_R_third_j3 (d := d) (ρ := ρ) M0 x172 s_M0 hQ
              · skip
                refine ps_nrn hc7 ?_
                (try simp only [if_neg hc7])
                by_cases hc8 : x2 = 0
                · skip
                  refine ps_nrp hc8 ?_
                  (try simp only [if_pos hc8])
                  have t_ := so_R_nextWord (d := d) (ρ := ρ) M0 s_M0 
                  refine ps_and t_.1 ?_
                  replace t_ := t_.2
                  refine ps_let ?_
                  refine ps_let ?_
                  generalize e_x162 : f_R_nextWord_v M0 = x162 at t_ ⊢
                  generalize e_M163 : f_R_nextWord_m M0 = M163 at t_ ⊢
                  obtain ⟨s_M163, q0_x162⟩ := t_
                  have t_ := so_R_calls (d := d) (ρ := ρ) M163 (1 : Int32) x162 s_M163 (by first | assumption | decide | (constructor <;> ((try simp only [ti_le, ti_lt, ti_eq, Int32.reduceToInt] at *) <;> omega)))
                  refine And.intro t_.1 ?_
                  replace t_ := t_.2
                  generalize e_M164 : f_R_calls_m M163 (1 : Int32) x162 = M164 at t_ ⊢
                  have s_M164 := t_
                  exact so_R_third_j1 (d := d) (ρ := ρ) M164 s_M164 hQ
                · skip
                  refine ps_nrn hc8 ?_
                  refine And.intro trivial ?_
                  (try simp only [if_neg hc8])
                  have s_M161 : SR d ρ (mst M0 0 23 (1 : Int32)) := SR.sf s_M0 (by decide) (any_rng _)
                  generalize e_M161 : mst M0 0 23 (1 : Int32) = M161 at s_M161 ⊢
                  exact so_R_third_j1 (d := d) (ρ := ρ) M161 s_M161 hQ
            · skip
              refine ps_brn hc6 ?_
              (try simp only [if_neg hc6])
              by_cases hc7 : (a2 = (6 : Int32))
              · skip
                refine ps_brp hc7 ?_
                (try simp only [if_pos hc7])
                have t_ := so_R_next (d := d) (ρ := ρ) M0 s_M0 
                refine ps_and t_.1 ?_
                replace t_ := t_.2
                refine ps_let ?_
                refine ps_let ?_
                generalize e_x173 : f_R_next_v M0 = x173 at t_ ⊢
                generalize e_M174 : f_R_next_m M0 = M174 at t_ ⊢
                obtain ⟨s_M174, q0_x173⟩ := t_
                have t_ := so_R_reckons (d := d) (ρ := ρ) M174 a1 x173 s_M174 (by first | assumption | decide | (constructor <;> ((try simp only [ti_le, ti_lt, ti_eq, Int32.reduceToInt] at *) <;> omega)))
                refine And.intro t_.1 ?_
                replace t_ := t_.2
                generalize e_M175 : f_R_reckons_m M174 a1 x173 = M175 at t_ ⊢
                have s_M175 := t_
                exact so_R_third_j1 (d := d) (ρ := ρ) M175 s_M175 hQ
              · skip
                refine ps_brn hc7 ?_
                (try simp only [if_neg hc7])
                have t_ := so_R_calls (d := d) (ρ := ρ) M0 (1 : Int32) ((8 : Int32) * a1) s_M0 (by rw [ti_mul (by (try simp only [ti_le, ti_lt, ti_eq, Int32.reduceToInt] at *) <;> omega) (by (try simp only [ti_le, ti_lt, ti_eq, Int32.reduceToInt] at *) <;> omega)]; constructor <;> ((try simp only [ti_le, ti_lt, ti_eq, Int32.reduceToInt] at *) <;> omega))
                refine And.intro t_.1 ?_
                replace t_ := t_.2
                generalize e_M176 : f_R_calls_m M0 (1 : Int32) ((8 : Int32) * a1) = M176 at t_ ⊢
                have s_M176 := t_
                exact so_R_third_j1 (d := d) (ρ := ρ) M176 s_M176 hQ
theorem so_R_third {d : Int32} {ρ : Nat → Int32} (M0 : Mem) (a1 : Int32) (a2 : Int32) (s_M0 : SR d ρ M0) (hp0 : 0 ≤ (a1).toInt ∧ (a1).toInt < 8) : ok_R_third M0 a1 a2 ∧ SR d ρ (f_R_third_m M0 a1 a2) := sq_R_third (d := d) (ρ := ρ) (Q := fun M' => SR d ρ M') M0 a1 a2 s_M0 hp0 (fun _ h0 => h0)
set_option maxRecDepth 100000 in
set_option maxHeartbeats 4000000 in
theorem so_R_isSignal_j1 {d : Int32} {ρ : Nat → Int32} {Q : Int32 → Prop} (x3 : Int32) (hp0 : isB x3) (hQ : ∀ (x : Int32), isB x → Q x) : ok_R_isSignal_j1 x3 ∧ Q (f_R_isSignal_j1_v x3) := by
  unfold ok_R_isSignal_j1 f_R_isSignal_j1_v
  (try dsimp only)
  refine And.intro (by assumption) ?_
  exact hQ _ (by assumption)
set_option maxRecDepth 100000 in
set_option maxHeartbeats 4000000 in
theorem so_R_isSignal_j2 {d : Int32} {ρ : Nat → Int32} {Q : Int32 → Prop} (hQ : ∀ (x : Int32), isB x → Q x) : ok_R_isSignal_j2  ∧ Q (f_R_isSignal_j2_v ) := by
  unfold ok_R_isSignal_j2 f_R_isSignal_j2_v
  (try dsimp only)
  exact so_R_isSignal_j1 (d := d) (ρ := ρ) (1 : Int32) (by exact isB_1) hQ
set_option maxRecDepth 100000 in
set_option maxHeartbeats 4000000 in
theorem so_R_isSignal_j6 {d : Int32} {ρ : Nat → Int32} {Q : Int32 → Prop} (hQ : ∀ (x : Int32), isB x → Q x) : ok_R_isSignal_j6  ∧ Q (f_R_isSignal_j6_v ) := by
  unfold ok_R_isSignal_j6 f_R_isSignal_j6_v
  (try dsimp only)
  exact so_R_isSignal_j1 (d := d) (ρ := ρ) (0 : Int32) (by exact isB_0) hQ
set_option maxRecDepth 100000 in
set_option maxHeartbeats 4000000 in
theorem so_R_isSignal_j5 {d : Int32} {ρ : Nat → Int32} {Q : Int32 → Prop} (M0 : Mem) (x1 : Int32) (s_M0 : SR d ρ M0) (hQ : ∀ (x : Int32), isB x → Q x) : ok_R_isSignal_j5 M0 x1 ∧ Q (f_R_isSignal_j5_v M0 x1) := by
  unfold ok_R_isSignal_j5 f_R_isSignal_j5_v
  (try dsimp only)
  by_cases hc1 : ((M0 0 34) &&& (8 : Int32)) ≤ 0
  · skip
    refine ps_brp hc1 ?_
    (try simp only [if_pos hc1])
    exact so_R_isSignal_j6 (d := d) (ρ := ρ) hQ
  · skip
    refine ps_brn hc1 ?_
    (try simp only [if_neg hc1])
    by_cases hc2 : x1 = 0
    · skip
      refine ps_nrp hc2 ?_
      (try simp only [if_pos hc2])
      exact so_R_isSignal_j2 (d := d) (ρ := ρ) hQ
    · skip
      refine ps_nrn hc2 ?_
      (try simp only [if_neg hc2])
      exact so_R_isSignal_j6 (d := d) (ρ := ρ) hQ
set_option maxRecDepth 100000 in
set_option maxHeartbeats 4000000 in
theorem so_R_isSignal_j4 {d : Int32} {ρ : Nat → Int32} {Q : Int32 → Prop} (M0 : Mem) (x1 : Int32) (s_M0 : SR d ρ M0) (hQ : ∀ (x : Int32), isB x → Q x) : ok_R_isSignal_j4 M0 x1 ∧ Q (f_R_isSignal_j4_v M0 x1) := by
  unfold ok_R_isSignal_j4 f_R_isSignal_j4_v
  (try dsimp only)
  by_cases hc1 : ((M0 0 34) &&& (16 : Int32)) ≤ 0
  · skip
    refine ps_brp hc1 ?_
    (try simp only [if_pos hc1])
    exact so_R_isSignal_j5 (d := d) (ρ := ρ) M0 x1 s_M0 hQ
  · skip
    refine ps_brn hc1 ?_
    (try simp only [if_neg hc1])
    by_cases hc2 : x1 = (1 : Int32)
    · skip
      refine ps_brp hc2 ?_
      (try simp only [if_pos hc2])
      exact so_R_isSignal_j2 (d := d) (ρ := ρ) hQ
    · skip
      refine ps_brn hc2 ?_
      (try simp only [if_neg hc2])
      exact so_R_isSignal_j5 (d := d) (ρ := ρ) M0 x1 s_M0 hQ
set_option maxRecDepth 100000 in
set_option maxHeartbeats 4000000 in
theorem so_R_isSignal_j3 {d : Int32} {ρ : Nat → Int32} {Q : Int32 → Prop} (M0 : Mem) (x1 : Int32) (s_M0 : SR d ρ M0) (hQ : ∀ (x : Int32), isB x → Q x) : ok_R_isSignal_j3 M0 x1 ∧ Q (f_R_isSignal_j3_v M0 x1) := by
  unfold ok_R_isSignal_j3 f_R_isSignal_j3_v
  (try dsimp only)
  by_cases hc1 : ((M0 0 34) &&& (32 : Int32)) ≤ 0
  · skip
    refine ps_brp hc1 ?_
    (try simp only [if_pos hc1])
    exact so_R_isSignal_j4 (d := d) (ρ := ρ) M0 x1 s_M0 hQ
  · skip
    refine ps_brn hc1 ?_
    (try simp only [if_neg hc1])
    by_cases hc2 : x1 = (2 : Int32)
    · skip
      refine ps_brp hc2 ?_
      (try simp only [if_pos hc2])
      exact so_R_isSignal_j2 (d := d) (ρ := ρ) hQ
    · skip
      refine ps_brn hc2 ?_
      (try simp only [if_neg hc2])
      exact so_R_isSignal_j4 (d := d) (ρ := ρ) M0 x1 s_M0 hQ
set_option maxRecDepth 100000 in
set_option maxHeartbeats 4000000 in
theorem sq_R_isSignal {d : Int32} {ρ : Nat → Int32} {Q : Int32 → Prop} (M0 : Mem) (s_M0 : SR d ρ M0) (hQ : ∀ (x : Int32), isB x → Q x) : ok_R_isSignal M0 ∧ Q (f_R_isSignal_v M0) := by
  unfold ok_R_isSignal f_R_isSignal_v
  (try dsimp only)
  by_cases hc1 : ((M0 0 33) &&& (128 : Int32)) = 0
  · skip
    refine ps_nrp hc1 ?_
    refine And.intro trivial ?_
    (try simp only [if_pos hc1])
    exact hQ _ (by exact isB_0)
  · skip
    refine ps_nrn hc1 ?_
    (try simp only [if_neg hc1])
    have t_ := so_R_state (d := d) (ρ := ρ) M0 s_M0 
    refine ps_let ?_
    generalize e_x1 : f_R_state_v M0 = x1 at t_ ⊢
    have q0_x1 := t_
    by_cases hc2 : ((M0 0 34) &&& (64 : Int32)) ≤ 0
    · skip
      refine ps_brp hc2 ?_
      (try simp only [if_pos hc2])
      exact so_R_isSignal_j3 (d := d) (ρ := ρ) M0 x1 s_M0 hQ
    · skip
      refine ps_brn hc2 ?_
      (try simp only [if_neg hc2])
      by_cases hc3 : (M0 0 37) = (M0 0 38)
      · skip
        refine ps_brp hc3 ?_
        (try simp only [if_pos hc3])
        exact so_R_isSignal_j2 (d := d) (ρ := ρ) hQ
      · skip
        refine ps_brn hc3 ?_
        (try simp only [if_neg hc3])
        exact so_R_isSignal_j3 (d := d) (ρ := ρ) M0 x1 s_M0 hQ
theorem so_R_isSignal {d : Int32} {ρ : Nat → Int32} (M0 : Mem) (s_M0 : SR d ρ M0) : ok_R_isSignal M0 ∧ isB (f_R_isSignal_v M0) := sq_R_isSignal (d := d) (ρ := ρ) (Q := fun x => isB x) M0 s_M0  (fun _ h1 => h1)
set_option maxRecDepth 100000 in
set_option maxHeartbeats 4000000 in
theorem so_R_cycle_j4 {d : Int32} {ρ : Nat → Int32} {Q : Mem → Prop} (x172 : Int32) (M177 : Mem) (s_M177 : SR d ρ M177) (hp0 : isB x172) (hQ : ∀ (M' : Mem), SR d ρ M' → Q M') : ok_R_cycle_j4 x172 M177 ∧ Q (f_R_cycle_j4_m x172 M177) := by
  unfold ok_R_cycle_j4 f_R_cycle_j4_m
  (try dsimp only)
  refine And.intro (by assumption) ?_
  have s_M178 : SR d ρ (mst M177 0 46 x172) := SR.sf s_M177 (by decide) (any_rng _)
  generalize e_M178 : mst M177 0 46 x172 = M178 at s_M178 ⊢
  have s_M179 : SR d ρ (mst M178 0 47 ((M178 0 47) + (1 : Int32))) := SR.sf s_M178 (by decide) (any_rng _)
  generalize e_M179 : mst M178 0 47 ((M178 0 47) + (1 : Int32)) = M179 at s_M179 ⊢
  exact hQ _ s_M179
set_option maxRecDepth 100000 in
set_option maxHeartbeats 4000000 in
theorem so_R_cycle_j3 {d : Int32} {ρ : Nat → Int32} {Q : Mem → Prop} (M171 : Mem) (s_M171 : SR d ρ M171) (hQ : ∀ (M' : Mem), SR d ρ M' → Q M') : ok_R_cycle_j3 M171 ∧ Q (f_R_cycle_j3_m M171) := by
  unfold ok_R_cycle_j3 f_R_cycle_j3_m
  (try dsimp only)
  have t_ := so_R_isSignal (d := d) (ρ := ρ) M171 s_M171 
  refine ps_and t_.1 ?_
  replace t_ := t_.2
  refine ps_let ?_
  generalize e_x172 : f_R_isSignal_v M171 = x172 at t_ ⊢
  have q0_x172 := t_
  by_cases hc1 : x172 = 0
  · skip
    refine ps_brp hc1 ?_
    (try simp only [if_pos hc1])
    exact so_R_cycle_j4 (d := d) (ρ := ρ) x172 M171 s_M171 (by assumption) hQ
  · skip
    refine ps_brn hc1 ?_
    (try simp only [if_neg hc1])
    by_cases hc2 : (M171 0 46) = 0
    · skip
      refine ps_nrp hc2 ?_
      (try simp only [if_pos hc2])
      refine ps_let ?_
      have s_M180 : SR d ρ (mst M171 0 31 ((M171 0 31) ||| (2 : Int32))) := SR.sf s_M171 (by decide) (f31 (s_M171.f 31) _ (by decide))
      generalize e_M180 : mst M171 0 31 ((M171 0 31) ||| (2 : Int32)) = M180 at s_M180 ⊢
      exact so_R_cycle_j4 (d := d) (ρ := ρ) x172 M180 s_M180 (by assumption) hQ
    · skip
      refine ps_nrn hc2 ?_
      (try simp only [if_neg hc2])
      exact so_R_cycle_j4 (d := d) (ρ := ρ) x172 M171 s_M171 (by assumption) hQ
set_option maxRecDepth 100000 in
set_option maxHeartbeats 4000000 in
theorem so_R_cycle_j5 {d : Int32} {ρ : Nat → Int32} {Q : Mem → Prop} (M184 : Mem) (x189 : Int32) (s_M184 : SR d ρ M184) (hp0 : 0 ≤ (x189).toInt ∧ (x189).toInt < 154) (hQ : ∀ (M' : Mem), SR d ρ M' → Q M') : ok_R_cycle_j5 M184 x189 ∧ Q (f_R_cycle_j5_m M184 x189) := by
  unfold ok_R_cycle_j5 f_R_cycle_j5_m
  (try dsimp only)
  refine ps_let ?_
  have s_M190 : SR d ρ (mst M184 0 37 x189) := SR.sf s_M184 (by decide) (by assumption)
  generalize e_M190 : mst M184 0 37 x189 = M190 at s_M190 ⊢
  by_cases hc1 : (M190 0 37) = (144 : Int32)
  · skip
    refine ps_nrp hc1 ?_
    (try simp only [if_pos hc1])
    refine ps_let ?_
    have s_M191 : SR d ρ (mst M190 0 31 ((M190 0 31) ||| (1 : Int32))) := SR.sf s_M190 (by decide) (f31 (s_M190.f 31) _ (by decide))
    generalize e_M191 : mst M190 0 31 ((M190 0 31) ||| (1 : Int32)) = M191 at s_M191 ⊢
    refine ps_let ?_
    have s_M192 : SR d ρ (mst M191 0 50 ((M191 0 50) + (1 : Int32))) := SR.sf s_M191 (by decide) (any_rng _)
    generalize e_M192 : mst M191 0 50 ((M191 0 50) + (1 : Int32)) = M192 at s_M192 ⊢
    exact so_R_cycle_j3 (d := d) (ρ := ρ) M192 s_M192 hQ
  · skip
    refine ps_nrn hc1 ?_
    (try simp only [if_neg hc1])
    exact so_R_cycle_j3 (d := d) (ρ := ρ) M190 s_M190 hQ
set_option maxRecDepth 100000 in
set_option maxHeartbeats 4000000 in
theorem so_R_cycle_j2 {d : Int32} {ρ : Nat → Int32} {Q : Mem → Prop} (M148 : Mem) (s_M148 : SR d ρ M148) (hQ : ∀ (M' : Mem), SR d ρ M' → Q M') : ok_R_cycle_j2 M148 ∧ Q (f_R_cycle_j2_m M148) := by
  unfold ok_R_cycle_j2 f_R_cycle_j2_m
  (try dsimp only)
  by_cases hc1 : ((M148 0 33) &&& (128 : Int32)) ≤ 0
  · skip
    refine ps_brp hc1 ?_
    (try simp only [if_pos hc1])
    refine ps_let ?_
    have s_M181 : SR d ρ (mst M148 0 45 (0 : Int32)) := SR.sf s_M148 (by decide) (any_rng _)
    generalize e_M181 : mst M148 0 45 (0 : Int32) = M181 at s_M181 ⊢
    refine ps_let ?_
    have s_M182 : SR d ρ (mst M181 0 37 (0 : Int32)) := SR.sf s_M181 (by decide) (by decide)
    generalize e_M182 : mst M181 0 37 (0 : Int32) = M182 at s_M182 ⊢
    exact so_R_cycle_j3 (d := d) (ρ := ρ) M182 s_M182 hQ
  · skip
    refine ps_brn hc1 ?_
    (try simp only [if_neg hc1])
    refine ps_let ?_
    have s_M183 : SR d ρ (mst M148 0 45 ((M148 0 45) + (1 : Int32))) := SR.sf s_M148 (by decide) (any_rng _)
    generalize e_M183 : mst M148 0 45 ((M148 0 45) + (1 : Int32)) = M183 at s_M183 ⊢
    by_cases hc2 : (M183 0 45) = (114 : Int32)
    · skip
      refine ps_nrp hc2 ?_
      (try simp only [if_pos hc2])
      refine ps_let ?_
      have s_M184 : SR d ρ (mst M183 0 45 (0 : Int32)) := SR.sf s_M183 (by decide) (any_rng _)
      generalize e_M184 : mst M183 0 45 (0 : Int32) = M184 at s_M184 ⊢
      by_cases hc3 : (M184 0 37) = (153 : Int32)
      · skip
        refine ps_nrp hc3 ?_
        (try simp only [if_pos hc3])
        exact so_R_cycle_j5 (d := d) (ρ := ρ) M184 (0 : Int32) s_M184 (by first | assumption | exact by decide) hQ
      · skip
        refine ps_nrn hc3 ?_
        (try simp only [if_neg hc3])
        exact so_R_cycle_j5 (d := d) (ρ := ρ) M184 ((M184 0 37) + (1 : Int32)) s_M184 (by exact ly_up (s_M184.f 37) (by assumption)) hQ
    · skip
      refine ps_nrn hc2 ?_
      (try simp only [if_neg hc2])
      exact so_R_cycle_j3 (d := d) (ρ := ρ) M183 s_M183 hQ
set_option maxRecDepth 100000 in
set_option maxHeartbeats 4000000 in
theorem so_R_cycle_j1 {d : Int32} {ρ : Nat → Int32} {Q : Mem → Prop} (M1 : Mem) (x99 : Int32) (s_M1 : SR d ρ M1) (hp0 : ¬ x99 = 0) (hQ : ∀ (M' : Mem), SR d ρ M' → Q M') : ok_R_cycle_j1 M1 x99 ∧ Q (f_R_cycle_j1_m M1 x99) := by
  unfold ok_R_cycle_j1 f_R_cycle_j1_m
  (try dsimp only)
  by_cases hc1 : ((M1 0 30) &&& (4 : Int32)) ≤ 0
  · skip
    refine ps_brp hc1 ?_
    (try simp only [if_pos hc1])
    exact so_R_cycle_j2 (d := d) (ρ := ρ) M1 s_M1 hQ
  · skip
    refine ps_brn hc1 ?_
    (try simp only [if_neg hc1])
    refine ps_and (by first | assumption | decide | ((try simp only [ti_le, ti_lt, ti_eq, Int32.reduceToInt] at *) <;> omega)) ?_
    by_cases hc2 : ((M1 0 27) - (M1 0 27) / x99 * x99) = 0
    · skip
      refine ps_nrp hc2 ?_
      (try simp only [if_pos hc2])
      by_cases hc3 : (M1 0 28) = (255 : Int32)
      · skip
        refine ps_nrp hc3 ?_
        (try simp only [if_pos hc3])
        refine ps_let ?_
        have s_M194 : SR d ρ (mst M1 0 28 (M1 0 29)) := SR.sf s_M1 (by decide) (s_M1.f 29)
        generalize e_M194 : mst M1 0 28 (M1 0 29) = M194 at s_M194 ⊢
        refine ps_let ?_
        have s_M195 : SR d ρ (mst M194 0 31 ((M194 0 31) ||| (4 : Int32))) := SR.sf s_M194 (by decide) (f31 (s_M194.f 31) _ (by decide))
        generalize e_M195 : mst M194 0 31 ((M194 0 31) ||| (4 : Int32)) = M195 at s_M195 ⊢
        exact so_R_cycle_j2 (d := d) (ρ := ρ) M195 s_M195 hQ
      · skip
        refine ps_nrn hc3 ?_
        (try simp only [if_neg hc3])
        refine ps_let ?_
        have s_M193 : SR d ρ (mst M1 0 28 ((M1 0 28) + (1 : Int32))) := SR.sf s_M1 (by decide) (by have h9 := s_M1.f 28; exact tima_up h9 (by assumption))
        generalize e_M193 : mst M1 0 28 ((M1 0 28) + (1 : Int32)) = M193 at s_M193 ⊢
        exact so_R_cycle_j2 (d := d) (ρ := ρ) M193 s_M193 hQ
    · skip
      refine ps_nrn hc2 ?_
      (try simp only [if_neg hc2])
      exact so_R_cycle_j2 (d := d) (ρ := ρ) M1 s_M1 hQ
set_option maxRecDepth 100000 in
set_option maxHeartbeats 4000000 in
theorem sq_R_cycle {d : Int32} {ρ : Nat → Int32} {Q : Mem → Prop} (M0 : Mem) (s_M0 : SR d ρ M0) (hQ : ∀ (M' : Mem), SR d ρ M' → Q M') : ok_R_cycle M0 ∧ Q (f_R_cycle_m M0) := by
  unfold ok_R_cycle f_R_cycle_m
  (try dsimp only)
  refine ps_let ?_
  have s_M1 : SR d ρ (mst M0 0 27 (((M0 0 27) + (1 : Int32)) &&& (65535 : Int32))) := SR.sf s_M0 (by decide) (and_lt (by decide))
  generalize e_M1 : mst M0 0 27 (((M0 0 27) + (1 : Int32)) &&& (65535 : Int32)) = M1 at s_M1 ⊢
  by_cases hc1 : ((M1 0 30) &&& (3 : Int32)) = 0
  · skip
    refine ps_nrp hc1 ?_
    (try simp only [if_pos hc1])
    exact so_R_cycle_j1 (d := d) (ρ := ρ) M1 (256 : Int32) s_M1 (by decide) hQ
  · skip
    refine ps_nrn hc1 ?_
    (try simp only [if_neg hc1])
    by_cases hc2 : ((M1 0 30) &&& (3 : Int32)) = (1 : Int32)
    · skip
      refine ps_nrp hc2 ?_
      (try simp only [if_pos hc2])
      exact so_R_cycle_j1 (d := d) (ρ := ρ) M1 (4 : Int32) s_M1 (by decide) hQ
    · skip
      refine ps_nrn hc2 ?_
      (try simp only [if_neg hc2])
      by_cases hc3 : ((M1 0 30) &&& (3 : Int32)) = (2 : Int32)
      · skip
        refine ps_nrp hc3 ?_
        (try simp only [if_pos hc3])
        exact so_R_cycle_j1 (d := d) (ρ := ρ) M1 (16 : Int32) s_M1 (by decide) hQ
      · skip
        refine ps_nrn hc3 ?_
        (try simp only [if_neg hc3])
        exact so_R_cycle_j1 (d := d) (ρ := ρ) M1 (64 : Int32) s_M1 (by decide) hQ
theorem so_R_cycle {d : Int32} {ρ : Nat → Int32} (M0 : Mem) (s_M0 : SR d ρ M0) : ok_R_cycle M0 ∧ SR d ρ (f_R_cycle_m M0) := sq_R_cycle (d := d) (ρ := ρ) (Q := fun M' => SR d ρ M') M0 s_M0  (fun _ h0 => h0)
set_option maxRecDepth 100000 in
set_option maxHeartbeats 4000000 in
theorem so_R_registerAt_j1 {d : Int32} {ρ : Nat → Int32} {Q : Int32 → Prop} (x2 : Int32) (hQ : ∀ (x : Int32), Q x) : Q (f_R_registerAt_j1_v x2) := by
  unfold f_R_registerAt_j1_v
  (try dsimp only)
  exact hQ _
set_option maxRecDepth 100000 in
set_option maxHeartbeats 4000000 in
theorem sq_R_registerAt {d : Int32} {ρ : Nat → Int32} {Q : Int32 → Prop} (M0 : Mem) (a1 : Int32) (s_M0 : SR d ρ M0) (hp0 : 0 ≤ (a1).toInt ∧ (a1).toInt ≤ 9) (hQ : ∀ (x : Int32), Q x) : ok_R_registerAt M0 a1 ∧ Q (f_R_registerAt_v M0 a1) := by
  unfold ok_R_registerAt f_R_registerAt_v
  (try dsimp only)
  by_cases hc1 : a1 = 0
  · skip
    refine ps_nrp hc1 ?_
    refine And.intro trivial ?_
    (try simp only [if_pos hc1])
    exact so_R_registerAt_j1 (d := d) (ρ := ρ) (M0 8 7) hQ
  · skip
    refine ps_nrn hc1 ?_
    (try simp only [if_neg hc1])
    by_cases hc2 : a1 = (1 : Int32)
    · skip
      refine ps_nrp hc2 ?_
      refine And.intro trivial ?_
      (try simp only [if_pos hc2])
      exact so_R_registerAt_j1 (d := d) (ρ := ρ) (M0 8 6) hQ
    · skip
      refine ps_nrn hc2 ?_
      (try simp only [if_neg hc2])
      by_cases hc3 : (8 : Int32) ≤ a1
      · skip
        refine ps_brp hc3 ?_
        refine And.intro trivial ?_
        (try simp only [if_pos hc3])
        by_cases hc4 : a1 = (8 : Int32)
        · skip
          (try simp only [if_pos hc4])
          exact so_R_registerAt_j1 (d := d) (ρ := ρ) (M0 0 18) hQ
        · skip
          (try simp only [if_neg hc4])
          exact so_R_registerAt_j1 (d := d) (ρ := ρ) (M0 0 19) hQ
      · skip
        refine ps_brn hc3 ?_
        (try simp only [if_neg hc3])
        refine And.intro (by rw [vp_iff, ti_sub (by (try simp only [ti_le, ti_lt, ti_eq, Int32.reduceToInt] at *) <;> omega) (by (try simp only [ti_le, ti_lt, ti_eq, Int32.reduceToInt] at *) <;> omega)]; constructor <;> ((try simp only [ti_le, ti_lt, ti_eq, Int32.reduceToInt] at *) <;> omega)) ?_
        exact so_R_registerAt_j1 (d := d) (ρ := ρ) (M0 8 ((a1 - (2 : Int32))).toNatClampNeg) hQ
theorem so_R_registerAt {d : Int32} {ρ : Nat → Int32} (M0 : Mem) (a1 : Int32) (s_M0 : SR d ρ M0) (hp0 : 0 ≤ (a1).toInt ∧ (a1).toInt ≤ 9) : ok_R_registerAt M0 a1 ∧ True := sq_R_registerAt (d := d) (ρ := ρ) (Q := fun _ => True) M0 a1 s_M0 hp0 (fun _ => trivial)
