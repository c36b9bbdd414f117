set_option maxRecDepth 100000 in
set_option maxHeartbeats 4000000 in
theorem so_R_put_j1 {d : Int32} {ρ : Nat → Int32} {Q : Mem → Prop} (M16 : Mem) (s_M16 : SR d ρ M16) (hQ : ∀ (M' : Mem), SR d ρ M' → Q M') : Q (f_R_put_j1_m M16) := by
  unfold f_R_put_j1_m
  (try dsimp only)
  exact hQ _ s_M16
set_option maxRecDepth 100000 in
set_option maxHeartbeats 4000000 in
theorem so_R_put_j2 {d : Int32} {ρ : Nat → Int32} {Q : Mem → Prop} (M0 : Mem) (a1 : Int32) (a2 : Int32) (s_M0 : SR d ρ M0) (hp0 : 0 ≤ (a2).toInt ∧ (a2).toInt < 256) (hp1 : 0 ≤ (a1).toInt ∧ (a1).toInt < 65536) (hQ : ∀ (M' : Mem), SR d ρ M' → Q M') : ok_R_put_j2 M0 a1 a2 ∧ Q (f_R_put_j2_m M0 a1 a2) := by
  unfold ok_R_put_j2 f_R_put_j2_m
  (try dsimp only)
  by_cases hc1 : a1 < (65280 : Int32)
  · skip
    refine ps_brp hc1 ?_
    refine And.intro trivial ?_
    (try simp only [if_pos hc1])
    exact so_R_put_j1 (d := d) (ρ := ρ) M0 s_M0 hQ
  · skip
    refine ps_brn hc1 ?_
    (try simp only [if_neg hc1])
    have t_ := so_R_setPort (d := d) (ρ := ρ) M0 a1 a2 s_M0 (by first | assumption | decide | (constructor <;> ((try simp only [ti_le, ti_lt, ti_eq, Int32.reduceToInt] at *) <;> omega)))
    refine And.intro t_.1 ?_
    replace t_ := t_.2
    generalize e_M19 : f_R_setPort_m M0 a1 a2 = M19 at t_ ⊢
    have s_M19 := t_
    exact so_R_put_j1 (d := d) (ρ := ρ) M19 s_M19 hQ
set_option maxRecDepth 100000 in
set_option maxHeartbeats 4000000 in
theorem so_R_put_j3 {d : Int32} {ρ : Nat → Int32} {Q : Mem → Prop} (M0 : Mem) (a1 : Int32) (x24 : Int32) (x27 : Int32) (s_M0 : SR d ρ M0) (hp0 : 0 ≤ (x24).toInt ∧ (x24).toInt < 4) (hp1 : 0 ≤ (x27).toInt ∧ (x27).toInt < 256) (hQ : ∀ (M' : Mem), SR d ρ M' → Q M') : ok_R_put_j3 M0 a1 x24 x27 ∧ Q (f_R_put_j3_m M0 a1 x24 x27) := by
  unfold ok_R_put_j3 f_R_put_j3_m
  (try dsimp only)
  refine And.intro (by exact ram_in2 (by assumption)) ?_
  have s_M28 : SR d ρ (mst M0 2 ((((256 : Int32) * x24) + (a1 &&& (255 : Int32)))).toNatClampNeg x27) := SR.sa s_M0 (by decide) (by assumption)
  generalize e_M28 : mst M0 2 ((((256 : Int32) * x24) + (a1 &&& (255 : Int32)))).toNatClampNeg x27 = M28 at s_M28 ⊢
  exact so_R_put_j1 (d := d) (ρ := ρ) M28 s_M28 hQ
set_option maxRecDepth 100000 in
set_option maxHeartbeats 4000000 in
theorem sq_R_put {d : Int32} {ρ : Nat → Int32} {Q : Mem → Prop} (M0 : Mem) (a1 : Int32) (a2 : Int32) (s_M0 : SR d ρ M0) (hp0 : 0 ≤ (a1).toInt ∧ (a1).toInt < 65536) (hp1 : 0 ≤ (a2).toInt ∧ (a2).toInt < 256) (hQ : ∀ (M' : Mem), SR d ρ M' → Q M') : ok_R_put M0 a1 a2 ∧ Q (f_R_put_m M0 a1 a2) := by
  unfold ok_R_put f_R_put_m
  (try dsimp only)
  by_cases hc1 : (32768 : Int32) ≤ a1
  · skip
    refine ps_brp hc1 ?_
    (try simp only [if_pos hc1])
    by_cases hc2 : (40960 : Int32) ≤ a1
    · skip
      refine ps_brp hc2 ?_
      (try simp only [if_pos hc2])
      by_cases hc3 : (49152 : Int32) ≤ a1
      · skip
        refine ps_brp hc3 ?_
        (try simp only [if_pos hc3])
        by_cases hc4 : (65024 : Int32) ≤ a1
        · skip
          refine ps_brp hc4 ?_
          (try simp only [if_pos hc4])
          by_cases hc5 : (65184 : Int32) ≤ a1
          · skip
            refine ps_brp hc5 ?_
            (try simp only [if_pos hc5])
            by_cases hc6 : a1 < (65408 : Int32)
            · skip
              refine ps_brp hc6 ?_
              (try simp only [if_pos hc6])
              exact so_R_put_j2 (d := d) (ρ := ρ) M0 a1 a2 s_M0 (by first | assumption | decide | (constructor <;> ((try simp only [ti_le, ti_lt, ti_eq, Int32.reduceToInt] at *) <;> omega))) (by first | assumption | decide | (constructor <;> ((try simp only [ti_le, ti_lt, ti_eq, Int32.reduceToInt] at *) <;> omega))) hQ
            · skip
              refine ps_brn hc6 ?_
              (try simp only [if_neg hc6])
              by_cases hc7 : (65535 : Int32) ≤ a1
              · skip
                refine ps_brp hc7 ?_
                (try simp only [if_pos hc7])
                exact so_R_put_j2 (d := d) (ρ := ρ) M0 a1 a2 s_M0 (by first | assumption | decide | (constructor <;> ((try simp only [ti_le, ti_lt, ti_eq, Int32.reduceToInt] at *) <;> omega))) (by first | assumption | decide | (constructor <;> ((try simp only [ti_le, ti_lt, ti_eq, Int32.reduceToInt] at *) <;> omega))) hQ
              · skip
                refine ps_brn hc7 ?_
                (try simp only [if_neg hc7])
                refine And.intro (by rw [vp_iff, ti_sub (by (try simp only [ti_le, ti_lt, ti_eq, Int32.reduceToInt] at *) <;> omega) (by (try simp only [ti_le, ti_lt, ti_eq, Int32.reduceToInt] at *) <;> omega)]; constructor <;> ((try simp only [ti_le, ti_lt, ti_eq, Int32.reduceToInt] at *) <;> omega)) ?_
                have s_M20 : SR d ρ (mst M0 6 ((a1 - (65408 : Int32))).toNatClampNeg a2) := SR.sa s_M0 (by decide) (by assumption)
                generalize e_M20 : mst M0 6 ((a1 - (65408 : Int32))).toNatClampNeg a2 = M20 at s_M20 ⊢
                exact so_R_put_j1 (d := d) (ρ := ρ) M20 s_M20 hQ
          · skip
            refine ps_brn hc5 ?_
            (try simp only [if_neg hc5])
            refine And.intro (by rw [vp_iff, ti_sub (by (try simp only [ti_le, ti_lt, ti_eq, Int32.reduceToInt] at *) <;> omega) (by (try simp only [ti_le, ti_lt, ti_eq, Int32.reduceToInt] at *) <;> omega)]; constructor <;> ((try simp only [ti_le, ti_lt, ti_eq, Int32.reduceToInt] at *) <;> omega)) ?_
            have s_M21 : SR d ρ (mst M0 5 ((a1 - (65024 : Int32))).toNatClampNeg a2) := SR.sa s_M0 (by decide) (by assumption)
            generalize e_M21 : mst M0 5 ((a1 - (65024 : Int32))).toNatClampNeg a2 = M21 at s_M21 ⊢
            exact so_R_put_j1 (d := d) (ρ := ρ) M21 s_M21 hQ
        · skip
          refine ps_brn hc4 ?_
          (try simp only [if_neg hc4])
          refine And.intro (by exact vp_and (by decide)) ?_
          have s_M22 : SR d ρ (mst M0 4 ((a1 &&& (1023 : Int32))).toNatClampNeg a2) := SR.sa s_M0 (by decide) (by assumption)
          generalize e_M22 : mst M0 4 ((a1 &&& (1023 : Int32))).toNatClampNeg a2 = M22 at s_M22 ⊢
          exact so_R_put_j1 (d := d) (ρ := ρ) M22 s_M22 hQ
      · skip
        refine ps_brn hc3 ?_
        (try simp only [if_neg hc3])
        have t_ := so_R_hasRam (d := d) (ρ := ρ) M0 s_M0 
        refine ps_and t_.1 ?_
        replace t_ := t_.2
        refine ps_let ?_
        generalize e_x23 : f_R_hasRam_v M0 = x23 at t_ ⊢
        by_cases hc4 : x23 = 0
        · skip
          refine ps_brp hc4 ?_
          refine And.intro trivial ?_
          (try simp only [if_pos hc4])
          exact so_R_put_j1 (d := d) (ρ := ρ) M0 s_M0 hQ
        · skip
          refine ps_brn hc4 ?_
          (try simp only [if_neg hc4])
          have t_ := so_R_bankRam (d := d) (ρ := ρ) M0 s_M0 
          refine ps_let ?_
          generalize e_x24 : f_R_bankRam_v M0 = x24 at t_ ⊢
          have q0_x24 := t_
          by_cases hc5 : (M0 0 10) = (2 : Int32)
          · skip
            refine ps_nrp hc5 ?_
            (try simp only [if_pos hc5])
            exact so_R_put_j3 (d := d) (ρ := ρ) M0 a1 x24 (a2 &&& (15 : Int32)) s_M0 (by first | assumption | decide | (constructor <;> ((try simp only [ti_le, ti_lt, ti_eq, Int32.reduceToInt] at *) <;> omega))) (by first | assumption | exact and_lt (by decide)) hQ
          · skip
            refine ps_nrn hc5 ?_
            (try simp only [if_neg hc5])
            exact so_R_put_j3 (d := d) (ρ := ρ) M0 a1 x24 a2 s_M0 (by first | assumption | decide | (constructor <;> ((try simp only [ti_le, ti_lt, ti_eq, Int32.reduceToInt] at *) <;> omega))) (by first | assumption | decide | (constructor <;> ((try simp only [ti_le, ti_lt, ti_eq, Int32.reduceToInt] at *) <;> omega))) hQ
    · skip
      refine ps_brn hc2 ?_
      (try simp only [if_neg hc2])
      refine And.intro (by rw [vp_iff, ti_sub (by (try simp only [ti_le, ti_lt, ti_eq, Int32.reduceToInt] at *) <;> omega) (by (try simp only [ti_le, ti_lt, ti_eq, Int32.reduceToInt] at *) <;> omega)]; constructor <;> ((try simp only [ti_le, ti_lt, ti_eq, Int32.reduceToInt] at *) <;> omega)) ?_
      have s_M29 : SR d ρ (mst M0 3 ((a1 - (32768 : Int32))).toNatClampNeg a2) := SR.sa s_M0 (by decide) (by assumption)
      generalize e_M29 : mst M0 3 ((a1 - (32768 : Int32))).toNatClampNeg a2 = M29 at s_M29 ⊢
      exact so_R_put_j1 (d := d) (ρ := ρ) M29 s_M29 hQ
  · skip
    refine ps_brn hc1 ?_
    (try simp only [if_neg hc1])
    have t_ := so_R_controls (d := d) (ρ := ρ) M0 a1 a2 s_M0 (by first | assumption | decide | (constructor <;> ((try simp only [ti_le, ti_lt, ti_eq, Int32.reduceToInt] at *) <;> omega)))
    refine And.intro t_.1 ?_
    replace t_ := t_.2
    generalize e_M30 : f_R_controls_m M0 a1 a2 = M30 at t_ ⊢
    have s_M30 := t_
    exact so_R_put_j1 (d := d) (ρ := ρ) M30 s_M30 hQ
theorem so_R_put {d : Int32} {ρ : Nat → Int32} (M0 : Mem) (a1 : Int32) (a2 : Int32) (s_M0 : SR d ρ M0) (hp0 : 0 ≤ (a1).toInt ∧ (a1).toInt < 65536) (hp1 : 0 ≤ (a2).toInt ∧ (a2).toInt < 256) : ok_R_put M0 a1 a2 ∧ SR d ρ (f_R_put_m M0 a1 a2) := sq_R_put (d := d) (ρ := ρ) (Q := fun M' => SR d ρ M') M0 a1 a2 s_M0 hp0 hp1 (fun _ h0 => h0)
set_option maxRecDepth 100000 in
set_option maxHeartbeats 4000000 in
theorem sq_R_reads {d : Int32} {ρ : Nat → Int32} {Q : Int32 → Mem → Prop} (M0 : Mem) (a1 : Int32) (s_M0 : SR d ρ M0) (hQ : ∀ (x : Int32) (M' : Mem), SR d ρ M' → 0 ≤ (x).toInt ∧ (x).toInt < 256 → Q x M') : ok_R_reads M0 a1 ∧ Q (f_R_reads_v M0 a1) (f_R_reads_m M0 a1) := by
  unfold ok_R_reads f_R_reads_v f_R_reads_m
  (try dsimp only)
  refine ps_let ?_
  have s_M1 : SR d ρ (mst M0 0 20 ((M0 0 20) + (1 : Int32))) := SR.sf s_M0 (by decide) (any_rng _)
  generalize e_M1 : mst M0 0 20 ((M0 0 20) + (1 : Int32)) = M1 at s_M1 ⊢
  have t_ := so_R_get (d := d) (ρ := ρ) M1 (a1 &&& (65535 : Int32)) s_M1 (by first | assumption | exact and_lt (by decide))
  refine And.intro t_.1 ?_
  replace t_ := t_.2
  generalize e_x2 : f_R_get_v M1 (a1 &&& (65535 : Int32)) = x2 at t_ ⊢
  have q0_x2 := t_
  exact hQ _ _ s_M1 (by first | assumption | decide | (constructor <;> ((try simp only [ti_le, ti_lt, ti_eq, Int32.reduceToInt] at *) <;> omega)))
theorem so_R_reads {d : Int32} {ρ : Nat → Int32} (M0 : Mem) (a1 : Int32) (s_M0 : SR d ρ M0) : ok_R_reads M0 a1 ∧ SR d ρ (f_R_reads_m M0 a1) ∧ 0 ≤ ((f_R_reads_v M0 a1)).toInt ∧ ((f_R_reads_v M0 a1)).toInt < 256 := sq_R_reads (d := d) (ρ := ρ) (Q := fun x M' => SR d ρ M' ∧ 0 ≤ (x).toInt ∧ (x).toInt < 256) M0 a1 s_M0  (fun _ _ h0 h1 => ⟨h0, h1⟩)
set_option maxRecDepth 100000 in
set_option maxHeartbeats 4000000 in
theorem sq_R_writes {d : Int32} {ρ : Nat → Int32} {Q : Mem → Prop} (M0 : Mem) (a1 : Int32) (a2 : Int32) (s_M0 : SR d ρ M0) (hQ : ∀ (M' : Mem), SR d ρ M' → Q M') : ok_R_writes M0 a1 a2 ∧ Q (f_R_writes_m M0 a1 a2) := by
  unfold ok_R_writes f_R_writes_m
  (try dsimp only)
  refine ps_let ?_
  have s_M1 : SR d ρ (mst M0 0 20 ((M0 0 20) + (1 : Int32))) := SR.sf s_M0 (by decide) (any_rng _)
  generalize e_M1 : mst M0 0 20 ((M0 0 20) + (1 : Int32)) = M1 at s_M1 ⊢
  have t_ := so_R_put (d := d) (ρ := ρ) M1 (a1 &&& (65535 : Int32)) (a2 &&& (255 : Int32)) s_M1 (by first | assumption | exact and_lt (by decide)) (by first | assumption | exact and_lt (by decide))
  refine And.intro t_.1 ?_
  replace t_ := t_.2
  generalize e_M2 : f_R_put_m M1 (a1 &&& (65535 : Int32)) (a2 &&& (255 : Int32)) = M2 at t_ ⊢
  have s_M2 := t_
  exact hQ _ s_M2
theorem so_R_writes {d : Int32} {ρ : Nat → Int32} (M0 : Mem) (a1 : Int32) (a2 : Int32) (s_M0 : SR d ρ M0) : ok_R_writes M0 a1 a2 ∧ SR d ρ (f_R_writes_m M0 a1 a2) := sq_R_writes (d := d) (ρ := ρ) (Q := fun M' => SR d ρ M') M0 a1 a2 s_M0  (fun _ h0 => h0)
set_option maxRecDepth 100000 in
set_option maxHeartbeats 4000000 in
theorem sq_R_next {d : Int32} {ρ : Nat → Int32} {Q : Int32 → Mem → Prop} (M0 : Mem) (s_M0 : SR d ρ M0) (hQ : ∀ (x : Int32) (M' : Mem), SR d ρ M' → 0 ≤ (x).toInt ∧ (x).toInt < 256 → Q x M') : ok_R_next M0 ∧ Q (f_R_next_v M0) (f_R_next_m M0) := by
  unfold ok_R_next f_R_next_v f_R_next_m
  (try dsimp only)
  have t_ := so_R_reads (d := d) (ρ := ρ) M0 (M0 0 19) s_M0 
  refine And.intro t_.1 ?_
  replace t_ := t_.2
  generalize e_x1 : f_R_reads_v M0 (M0 0 19) = x1 at t_ ⊢
  generalize e_M2 : f_R_reads_m M0 (M0 0 19) = M2 at t_ ⊢
  obtain ⟨s_M2, q0_x1⟩ := t_
  have s_M3 : SR d ρ (mst M2 0 19 (((M2 0 19) + (1 : Int32)) &&& (65535 : Int32))) := SR.sf s_M2 (by decide) (and_lt (by decide))
  generalize e_M3 : mst M2 0 19 (((M2 0 19) + (1 : Int32)) &&& (65535 : Int32)) = M3 at s_M3 ⊢
  exact hQ _ _ s_M3 (by first | assumption | decide | (constructor <;> ((try simp only [ti_le, ti_lt, ti_eq, Int32.reduceToInt] at *) <;> omega)))
theorem so_R_next {d : Int32} {ρ : Nat → Int32} (M0 : Mem) (s_M0 : SR d ρ M0) : ok_R_next M0 ∧ SR d ρ (f_R_next_m M0) ∧ 0 ≤ ((f_R_next_v M0)).toInt ∧ ((f_R_next_v M0)).toInt < 256 := sq_R_next (d := d) (ρ := ρ) (Q := fun x M' => SR d ρ M' ∧ 0 ≤ (x).toInt ∧ (x).toInt < 256) M0 s_M0  (fun _ _ h0 h1 => ⟨h0, h1⟩)
set_option maxRecDepth 100000 in
set_option maxHeartbeats 4000000 in
theorem sq_R_nextWord {d : Int32} {ρ : Nat → Int32} {Q : Int32 → Mem → Prop} (M0 : Mem) (s_M0 : SR d ρ M0) (hQ : ∀ (x : Int32) (M' : Mem), SR d ρ M' → 0 ≤ (x).toInt ∧ (x).toInt < 65536 → Q x M') : ok_R_nextWord M0 ∧ Q (f_R_nextWord_v M0) (f_R_nextWord_m M0) := by
  unfold ok_R_nextWord f_R_nextWord_v f_R_nextWord_m
  (try dsimp only)
  have t_ := so_R_next (d := d) (ρ := ρ) M0 s_M0 
  refine ps_and t_.1 ?_
  replace t_ := t_.2
  refine ps_let ?_
  refine ps_let ?_
  generalize e_x1 : f_R_next_v M0 = x1 at t_ ⊢
  generalize e_M2 : f_R_next_m M0 = M2 at t_ ⊢
  obtain ⟨s_M2, q0_x1⟩ := t_
  have t_ := so_R_next (d := d) (ρ := ρ) M2 s_M2 
  refine And.intro t_.1 ?_
  replace t_ := t_.2
  generalize e_x3 : f_R_next_v M2 = x3 at t_ ⊢
  generalize e_M4 : f_R_next_m M2 = M4 at t_ ⊢
  obtain ⟨s_M4, q0_x3⟩ := t_
  exact hQ _ _ s_M4 (by exact word_rng (by assumption) (by assumption))
theorem so_R_nextWord {d : Int32} {ρ : Nat → Int32} (M0 : Mem) (s_M0 : SR d ρ M0) : ok_R_nextWord M0 ∧ SR d ρ (f_R_nextWord_m M0) ∧ 0 ≤ ((f_R_nextWord_v M0)).toInt ∧ ((f_R_nextWord_v M0)).toInt < 65536 := sq_R_nextWord (d := d) (ρ := ρ) (Q := fun x M' => SR d ρ M' ∧ 0 ≤ (x).toInt ∧ (x).toInt < 65536) M0 s_M0  (fun _ _ h0 h1 => ⟨h0, h1⟩)
set_option maxRecDepth 100000 in
set_option maxHeartbeats 4000000 in
theorem so_R_signed_j1 {d : Int32} {ρ : Nat → Int32} {Q : Int32 → Prop} (x2 : Int32) (hp0 : -128 ≤ (x2).toInt ∧ (x2).toInt < 128) (hQ : ∀ (x : Int32), -128 ≤ (x).toInt ∧ (x).toInt < 128 → Q x) : Q (f_R_signed_j1_v x2) := by
  unfold f_R_signed_j1_v
  (try dsimp only)
  exact hQ _ (by first | assumption | (constructor <;> ((try simp only [ti_le, ti_lt, ti_eq, Int32.reduceToInt] at *) <;> omega)) | (rw [ti_sub (by (try simp only [ti_le, ti_lt, ti_eq, Int32.reduceToInt] at *) <;> omega) (by (try simp only [ti_le, ti_lt, ti_eq, Int32.reduceToInt] at *) <;> omega)]; constructor <;> ((try simp only [ti_le, ti_lt, ti_eq, Int32.reduceToInt] at *) <;> omega)))
set_option maxRecDepth 100000 in
set_option maxHeartbeats 4000000 in
theorem sq_R_signed {d : Int32} {ρ : Nat → Int32} {Q : Int32 → Prop} (M0 : Mem) (a1 : Int32) (s_M0 : SR d ρ M0) (hp0 : 0 ≤ (a1).toInt ∧ (a1).toInt < 256) (hQ : ∀ (x : Int32), -128 ≤ (x).toInt ∧ (x).toInt < 128 → Q x) : Q (f_R_signed_v M0 a1) := by
  unfold f_R_signed_v
  (try dsimp only)
  by_cases hc1 : a1 ≤ (127 : Int32)
  · skip
    (try simp only [if_pos hc1])
    exact so_R_signed_j1 (d := d) (ρ := ρ) a1 (by first | assumption | (constructor <;> ((try simp only [ti_le, ti_lt, ti_eq, Int32.reduceToInt] at *) <;> omega)) | (rw [ti_sub (by (try simp only [ti_le, ti_lt, ti_eq, Int32.reduceToInt] at *) <;> omega) (by (try simp only [ti_le, ti_lt, ti_eq, Int32.reduceToInt] at *) <;> omega)]; constructor <;> ((try simp only [ti_le, ti_lt, ti_eq, Int32.reduceToInt] at *) <;> omega))) hQ
  · skip
    (try simp only [if_neg hc1])
    exact so_R_signed_j1 (d := d) (ρ := ρ) (a1 - (256 : Int32)) (by first | assumption | (constructor <;> ((try simp only [ti_le, ti_lt, ti_eq, Int32.reduceToInt] at *) <;> omega)) | (rw [ti_sub (by (try simp only [ti_le, ti_lt, ti_eq, Int32.reduceToInt] at *) <;> omega) (by (try simp only [ti_le, ti_lt, ti_eq, Int32.reduceToInt] at *) <;> omega)]; constructor <;> ((try simp only [ti_le, ti_lt, ti_eq, Int32.reduceToInt] at *) <;> omega))) hQ
theorem so_R_signed {d : Int32} {ρ : Nat → Int32} (M0 : Mem) (a1 : Int32) (s_M0 : SR d ρ M0) (hp0 : 0 ≤ (a1).toInt ∧ (a1).toInt < 256) : -128 ≤ ((f_R_signed_v M0 a1)).toInt ∧ ((f_R_signed_v M0 a1)).toInt < 128 := sq_R_signed (d := d) (ρ := ρ) (Q := fun x => -128 ≤ (x).toInt ∧ (x).toInt < 128) M0 a1 s_M0 hp0 (fun _ h1 => h1)
set_option maxRecDepth 100000 in
set_option maxHeartbeats 4000000 in
theorem so_R_pair_j1 {d : Int32} {ρ : Nat → Int32} {Q : Int32 → Prop} (x2 : Int32) (hp0 : 0 ≤ (x2).toInt ∧ (x2).toInt < 65536) (hQ : ∀ (x : Int32), 0 ≤ (x).toInt ∧ (x).toInt < 65536 → Q x) : Q (f_R_pair_j1_v x2) := by
  unfold f_R_pair_j1_v
  (try dsimp only)
  exact hQ _ (by first | assumption | decide | (constructor <;> ((try simp only [ti_le, ti_lt, ti_eq, Int32.reduceToInt] at *) <;> omega)))
set_option maxRecDepth 100000 in
set_option maxHeartbeats 4000000 in
theorem sq_R_pair {d : Int32} {ρ : Nat → Int32} {Q : Int32 → Prop} (M0 : Mem) (a1 : Int32) (s_M0 : SR d ρ M0) (hp0 : 0 ≤ (a1).toInt ∧ (a1).toInt < 4) (hQ : ∀ (x : Int32), 0 ≤ (x).toInt ∧ (x).toInt < 65536 → Q x) : ok_R_pair M0 a1 ∧ Q (f_R_pair_v M0 a1) := by
  unfold ok_R_pair f_R_pair_v
  (try dsimp only)
  by_cases hc1 : a1 = (3 : Int32)
  · skip
    refine ps_nrp hc1 ?_
    refine And.intro trivial ?_
    (try simp only [if_pos hc1])
    exact so_R_pair_j1 (d := d) (ρ := ρ) (M0 0 18) (by first | assumption | exact s_M0.f 18) hQ
  · skip
    refine ps_nrn hc1 ?_
    (try simp only [if_neg hc1])
    refine ps_and (by rw [vp_iff, ti_mul (by (try simp only [ti_le, ti_lt, ti_eq, Int32.reduceToInt] at *) <;> omega) (by (try simp only [ti_le, ti_lt, ti_eq, Int32.reduceToInt] at *) <;> omega)]; constructor <;> ((try simp only [ti_le, ti_lt, ti_eq, Int32.reduceToInt] at *) <;> omega)) ?_
    refine And.intro (by have h9 : ((2 : Int32) * a1).toInt = 2 * a1.toInt := (by rw [ti_mul (by (try simp only [ti_le, ti_lt, ti_eq, Int32.reduceToInt] at *) <;> omega) (by (try simp only [ti_le, ti_lt, ti_eq, Int32.reduceToInt] at *) <;> omega)]; rfl); rw [vp_iff, ti_add (by (try simp only [ti_le, ti_lt, ti_eq, Int32.reduceToInt] at *) <;> omega) (by (try simp only [ti_le, ti_lt, ti_eq, Int32.reduceToInt] at *) <;> omega)]; constructor <;> ((try simp only [ti_le, ti_lt, ti_eq, Int32.reduceToInt] at *) <;> omega)) ?_
    exact so_R_pair_j1 (d := d) (ρ := ρ) (((M0 8 (((2 : Int32) * a1)).toNatClampNeg) <<< ((8 : Int32) &&& (31 : Int32))) ||| (M0 8 ((((2 : Int32) * a1) + (1 : Int32))).toNatClampNeg)) (by exact word_rng' s_M0.r s_M0.r) hQ
theorem so_R_pair {d : Int32} {ρ : Nat → Int32} (M0 : Mem) (a1 : Int32) (s_M0 : SR d ρ M0) (hp0 : 0 ≤ (a1).toInt ∧ (a1).toInt < 4) : ok_R_pair M0 a1 ∧ 0 ≤ ((f_R_pair_v M0 a1)).toInt ∧ ((f_R_pair_v M0 a1)).toInt < 65536 := sq_R_pair (d := d) (ρ := ρ) (Q := fun x => 0 ≤ (x).toInt ∧ (x).toInt < 65536) M0 a1 s_M0 hp0 (fun _ h1 => h1)
set_option maxRecDepth 100000 in
set_option maxHeartbeats 4000000 in
theorem so_R_setPair_j1 {d : Int32} {ρ : Nat → Int32} {Q : Mem → Prop} (M5 : Mem) (s_M5 : SR d ρ M5) (hQ : ∀ (M' : Mem), SR d ρ M' → Q M') : Q (f_R_setPair_j1_m M5) := by
  unfold f_R_setPair_j1_m
  (try dsimp only)
  exact hQ _ s_M5
set_option maxRecDepth 100000 in
set_option maxHeartbeats 4000000 in
theorem sq_R_setPair {d : Int32} {ρ : Nat → Int32} {Q : Mem → Prop} (M0 : Mem) (a1 : Int32) (a2 : Int32) (s_M0 : SR d ρ M0) (hp0 : 0 ≤ (a1).toInt ∧ (a1).toInt < 4) (hQ : ∀ (M' : Mem), SR d ρ M' → Q M') : ok_R_setPair M0 a1 a2 ∧ Q (f_R_setPair_m M0 a1 a2) := by
  unfold ok_R_setPair f_R_setPair_m
  (try dsimp only)
  by_cases hc1 : a1 = (3 : Int32)
  · skip
    refine ps_nrp hc1 ?_
    refine And.intro trivial ?_
    (try simp only [if_pos hc1])
    have s_M8 : SR d ρ (mst M0 0 18 (a2 &&& (65535 : Int32))) := SR.sf s_M0 (by decide) (and_lt (by decide))
    generalize e_M8 : mst M0 0 18 (a2 &&& (65535 : Int32)) = M8 at s_M8 ⊢
    exact so_R_setPair_j1 (d := d) (ρ := ρ) M8 s_M8 hQ
  · skip
    refine ps_nrn hc1 ?_
    (try simp only [if_neg hc1])
    refine ps_and (by rw [vp_iff, ti_mul (by (try simp only [ti_le, ti_lt, ti_eq, Int32.reduceToInt] at *) <;> omega) (by (try simp only [ti_le, ti_lt, ti_eq, Int32.reduceToInt] at *) <;> omega)]; constructor <;> ((try simp only [ti_le, ti_lt, ti_eq, Int32.reduceToInt] at *) <;> omega)) ?_
    refine ps_let ?_
    have s_M6 : SR d ρ (mst M0 8 (((2 : Int32) * a1)).toNatClampNeg ((a2 >>> ((8 : Int32) &&& (31 : Int32))) &&& (255 : Int32))) := SR.sr s_M0 (and_lt (by decide))
    generalize e_M6 : mst M0 8 (((2 : Int32) * a1)).toNatClampNeg ((a2 >>> ((8 : Int32) &&& (31 : Int32))) &&& (255 : Int32)) = M6 at s_M6 ⊢
    refine And.intro (by have h9 : ((2 : Int32) * a1).toInt = 2 * a1.toInt := (by rw [ti_mul (by (try simp only [ti_le, ti_lt, ti_eq, Int32.reduceToInt] at *) <;> omega) (by (try simp only [ti_le, ti_lt, ti_eq, Int32.reduceToInt] at *) <;> omega)]; rfl); rw [vp_iff, ti_add (by (try simp only [ti_le, ti_lt, ti_eq, Int32.reduceToInt] at *) <;> omega) (by (try simp only [ti_le, ti_lt, ti_eq, Int32.reduceToInt] at *) <;> omega)]; constructor <;> ((try simp only [ti_le, ti_lt, ti_eq, Int32.reduceToInt] at *) <;> omega)) ?_
    have s_M7 : SR d ρ (mst M6 8 ((((2 : Int32) * a1) + (1 : Int32))).toNatClampNeg (a2 &&& (255 : Int32))) := SR.sr s_M6 (and_lt (by decide))
    generalize e_M7 : mst M6 8 ((((2 : Int32) * a1) + (1 : Int32))).toNatClampNeg (a2 &&& (255 : Int32)) = M7 at s_M7 ⊢
    exact so_R_setPair_j1 (d := d) (ρ := ρ) M7 s_M7 hQ
theorem so_R_setPair {d : Int32} {ρ : Nat → Int32} (M0 : Mem) (a1 : Int32) (a2 : Int32) (s_M0 : SR d ρ M0) (hp0 : 0 ≤ (a1).toInt ∧ (a1).toInt < 4) : ok_R_setPair M0 a1 a2 ∧ SR d ρ (f_R_setPair_m M0 a1 a2) := sq_R_setPair (d := d) (ρ := ρ) (Q := fun M' => SR d ρ M') M0 a1 a2 s_M0 hp0 (fun _ h0 => h0)
set_option maxRecDepth 100000 in
set_option maxHeartbeats 4000000 in
theorem so_R_operand_j1 {d : Int32} {ρ : Nat → Int32} {Q : Int32 → Mem → Prop} (x6 : Int32) (M7 : Mem) (s_M7 : SR d ρ M7) (hp0 : 0 ≤ (x6).toInt ∧ (x6).toInt < 256) (hQ : ∀ (x : Int32) (M' : Mem), SR d ρ M' → 0 ≤ (x).toInt ∧ (x).toInt < 256 → Q x M') : Q (f_R_operand_j1_v x6 M7) (f_R_operand_j1_m x6 M7) := by
  unfold f_R_operand_j1_v f_R_operand_j1_m
  (try dsimp only)
  exact hQ _ _ s_M7 (by first | assumption | decide | (constructor <;> ((try simp only [ti_le, ti_lt, ti_eq, Int32.reduceToInt] at *) <;> omega)))
set_option maxRecDepth 100000 in
set_option maxHeartbeats 4000000 in
theorem sq_R_operand {d : Int32} {ρ : Nat → Int32} {Q : Int32 → Mem → Prop} (M0 : Mem) (a1 : Int32) (s_M0 : SR d ρ M0) (hp0 : 0 ≤ (a1).toInt ∧ (a1).toInt < 8) (hQ : ∀ (x : Int32) (M' : Mem), SR d ρ M' → 0 ≤ (x).toInt ∧ (x).toInt < 256 → Q x M') : ok_R_operand M0 a1 ∧ Q (f_R_operand_v M0 a1) (f_R_operand_m M0 a1) := by
  unfold ok_R_operand f_R_operand_v f_R_operand_m
  (try dsimp only)
  by_cases hc1 : a1 = (6 : Int32)
  · skip
    refine ps_nrp hc1 ?_
    (try simp only [if_pos hc1])
    have t_ := so_R_pair (d := d) (ρ := ρ) M0 (2 : Int32) s_M0 (by first | assumption | exact by decide)
    refine ps_and t_.1 ?_
    replace t_ := t_.2
    refine ps_let ?_
    generalize e_x8 : f_R_pair_v M0 (2 : Int32) = x8 at t_ ⊢
    have q0_x8 := t_
    have t_ := so_R_reads (d := d) (ρ := ρ) M0 x8 s_M0 
    refine And.intro t_.1 ?_
    replace t_ := t_.2
    generalize e_x9 : f_R_reads_v M0 x8 = x9 at t_ ⊢
    generalize e_M10 : f_R_reads_m M0 x8 = M10 at t_ ⊢
    obtain ⟨s_M10, q0_x9⟩ := t_
    exact so_R_operand_j1 (d := d) (ρ := ρ) x9 M10 s_M10 (by first | assumption | decide | (constructor <;> ((try simp only [ti_le, ti_lt, ti_eq, Int32.reduceToInt] at *) <;> omega))) hQ
  · skip
    refine ps_nrn hc1 ?_
    (try simp only [if_neg hc1])
    refine And.intro (by first | assumption | (rw [vp_iff]; constructor <;> ((try simp only [ti_le, ti_lt, ti_eq, Int32.reduceToInt] at *) <;> omega))) ?_
    exact so_R_operand_j1 (d := d) (ρ := ρ) (M0 8 a1.toNatClampNeg) M0 s_M0 (by first | assumption | exact s_M0.r) hQ
theorem so_R_operand {d : Int32} {ρ : Nat → Int32} (M0 : Mem) (a1 : Int32) (s_M0 : SR d ρ M0) (hp0 : 0 ≤ (a1).toInt ∧ (a1).toInt < 8) : ok_R_operand M0 a1 ∧ SR d ρ (f_R_operand_m M0 a1) ∧ 0 ≤ ((f_R_operand_v M0 a1)).toInt ∧ ((f_R_operand_v M0 a1)).toInt < 256 := sq_R_operand (d := d) (ρ := ρ) (Q := fun x M' => SR d ρ M' ∧ 0 ≤ (x).toInt ∧ (x).toInt < 256) M0 a1 s_M0 hp0 (fun _ _ h0 h1 => ⟨h0, h1⟩)
set_option maxRecDepth 100000 in
set_option maxHeartbeats 4000000 in
theorem so_R_setOperand_j1 {d : Int32} {ρ : Nat → Int32} {Q : Mem → Prop} (M5 : Mem) (s_M5 : SR d ρ M5) (hQ : ∀ (M' : Mem), SR d ρ M' → Q M') : Q (f_R_setOperand_j1_m M5) := by
  unfold f_R_setOperand_j1_m
  (try dsimp only)
  exact hQ _ s_M5
set_option maxRecDepth 100000 in
set_option maxHeartbeats 4000000 in
theorem sq_R_setOperand {d : Int32} {ρ : Nat → Int32} {Q : Mem → Prop} (M0 : Mem) (a1 : Int32) (a2 : Int32) (s_M0 : SR d ρ M0) (hp0 : 0 ≤ (a1).toInt ∧ (a1).toInt < 8) (hQ : ∀ (M' : Mem), SR d ρ M' → Q M') : ok_R_setOperand M0 a1 a2 ∧ Q (f_R_setOperand_m M0 a1 a2) := by
  unfold ok_R_setOperand f_R_setOperand_m
  (try dsimp only)
  by_cases hc1 : a1 = (6 : Int32)
  · skip
    refine ps_nrp hc1 ?_
    (try simp only [if_pos hc1])
    have t_ := so_R_pair (d := d) (ρ := ρ) M0 (2 : Int32) s_M0 (by first | assumption | exact by decide)
    refine ps_and t_.1 ?_
    replace t_ := t_.2
    refine ps_let ?_
    generalize e_x7 : f_R_pair_v M0 (2 : Int32) = x7 at t_ ⊢
    have q0_x7 := t_
    have t_ := so_R_writes (d := d) (ρ := ρ) M0 x7 a2 s_M0 
    refine And.intro t_.1 ?_
    replace t_ := t_.2
    generalize e_M8 : f_R_writes_m M0 x7 a2 = M8 at t_ ⊢
    have s_M8 := t_
    exact so_R_setOperand_j1 (d := d) (ρ := ρ) M8 s_M8 hQ
  · skip
    refine ps_nrn hc1 ?_
    (try simp only [if_neg hc1])
    refine And.intro (by first | assumption | (rw [vp_iff]; constructor <;> ((try simp only [ti_le, ti_lt, ti_eq, Int32.reduceToInt] at *) <;> omega))) ?_
    have s_M6 : SR d ρ (mst M0 8 a1.toNatClampNeg (a2 &&& (255 : Int32))) := SR.sr s_M0 (and_lt (by decide))
    generalize e_M6 : mst M0 8 a1.toNatClampNeg (a2 &&& (255 : Int32)) = M6 at s_M6 ⊢
    exact so_R_setOperand_j1 (d := d) (ρ := ρ) M6 s_M6 hQ
theorem so_R_setOperand {d : Int32} {ρ : Nat → Int32} (M0 : Mem) (a1 : Int32) (a2 : Int32) (s_M0 : SR d ρ M0) (hp0 : 0 ≤ (a1).toInt ∧ (a1).toInt < 8) : ok_R_setOperand M0 a1 a2 ∧ SR d ρ (f_R_setOperand_m M0 a1 a2) := sq_R_setOperand (d := d) (ρ := ρ) (Q := fun M' => SR d ρ M') M0 a1 a2 s_M0 hp0 (fun _ h0 => h0)
set_option maxRecDepth 100000 in
set_option maxHeartbeats 4000000 in
theorem sq_R_push {d : Int32} {ρ : Nat → Int32} {Q : Mem → Prop} (M0 : Mem) (a1 : Int32) (s_M0 : SR d ρ M0) (hQ : ∀ (M' : Mem), SR d ρ M' → Q M') : ok_R_push M0 a1 ∧ Q (f_R_push_m M0 a1) := by
  unfold ok_R_push f_R_push_m
  (try dsimp only)
  refine ps_let ?_
  have s_M1 : SR d ρ (mst M0 0 18 (((M0 0 18) - (1 : Int32)) &&& (65535 : Int32))) := SR.sf s_M0 (by decide) (and_lt (by decide))
  generalize e_M1 : mst M0 0 18 (((M0 0 18) - (1 : Int32)) &&& (65535 : Int32)) = M1 at s_M1 ⊢
  have t_ := so_R_writes (d := d) (ρ := ρ) M1 (M1 0 18) (a1 >>> ((8 : Int32) &&& (31 : Int32))) s_M1 
  refine ps_and t_.1 ?_
  replace t_ := t_.2
  refine ps_let ?_
  generalize e_M2 : f_R_writes_m M1 (M1 0 18) (a1 >>> ((8 : Int32) &&& (31 : Int32))) = M2 at t_ ⊢
  have s_M2 := t_
  refine ps_let ?_
  have s_M3 : SR d ρ (mst M2 0 18 (((M2 0 18) - (1 : Int32)) &&& (65535 : Int32))) := SR.sf s_M2 (by decide) (and_lt (by decide))
  generalize e_M3 : mst M2 0 18 (((M2 0 18) - (1 : Int32)) &&& (65535 : Int32)) = M3 at s_M3 ⊢
  have t_ := so_R_writes (d := d) (ρ := ρ) M3 (M3 0 18) a1 s_M3 
  refine And.intro t_.1 ?_
  replace t_ := t_.2
  generalize e_M4 : f_R_writes_m M3 (M3 0 18) a1 = M4 at t_ ⊢
  have s_M4 := t_
  exact hQ _ s_M4
theorem so_R_push {d : Int32} {ρ : Nat → Int32} (M0 : Mem) (a1 : Int32) (s_M0 : SR d ρ M0) : ok_R_push M0 a1 ∧ SR d ρ (f_R_push_m M0 a1) := sq_R_push (d := d) (ρ := ρ) (Q := fun M' => SR d ρ M') M0 a1 s_M0  (fun _ h0 => h0)
set_option maxRecDepth 100000 in
set_option maxHeartbeats 4000000 in
theorem sq_R_pop {d : Int32} {ρ : Nat → Int32} {Q : Int32 → Mem → Prop} (M0 : Mem) (s_M0 : SR d ρ M0) (hQ : ∀ (x : Int32) (M' : Mem), SR d ρ M' → 0 ≤ (x).toInt ∧ (x).toInt < 65536 → Q x M') : ok_R_pop M0 ∧ Q (f_R_pop_v M0) (f_R_pop_m M0) := by
  unfold ok_R_pop f_R_pop_v f_R_pop_m
  (try dsimp only)
  have t_ := so_R_reads (d := d) (ρ := ρ) M0 (M0 0 18) s_M0 
  refine ps_and t_.1 ?_
  replace t_ := t_.2
  refine ps_let ?_
  refine ps_let ?_
  generalize e_x1 : f_R_reads_v M0 (M0 0 18) = x1 at t_ ⊢
  generalize e_M2 : f_R_reads_m M0 (M0 0 18) = M2 at t_ ⊢
  obtain ⟨s_M2, q0_x1⟩ := t_
  refine ps_let ?_
  have s_M3 : SR d ρ (mst M2 0 18 (((M2 0 18) + (1 : Int32)) &&& (65535 : Int32))) := SR.sf s_M2 (by decide) (and_lt (by decide))
  generalize e_M3 : mst M2 0 18 (((M2 0 18) + (1 : Int32)) &&& (65535 : Int32)) = M3 at s_M3 ⊢
  have t_ := so_R_reads (d := d) (ρ := ρ) M3 (M3 0 18) s_M3 
  refine And.intro t_.1 ?_
  replace t_ := t_.2
  generalize e_x4 : f_R_reads_v M3 (M3 0 18) = x4 at t_ ⊢
  generalize e_M5 : f_R_reads_m M3 (M3 0 18) = M5 at t_ ⊢
  obtain ⟨s_M5, q0_x4⟩ := t_
  have s_M6 : SR d ρ (mst M5 0 18 (((M5 0 18) + (1 : Int32)) &&& (65535 : Int32))) := SR.sf s_M5 (by decide) (and_lt (by decide))
  generalize e_M6 : mst M5 0 18 (((M5 0 18) + (1 : Int32)) &&& (65535 : Int32)) = M6 at s_M6 ⊢
  exact hQ _ _ s_M6 (by exact word_rng' (by assumption) (by assumption))
theorem so_R_pop {d : Int32} {ρ : Nat → Int32} (M0 : Mem) (s_M0 : SR d ρ M0) : ok_R_pop M0 ∧ SR d ρ (f_R_pop_m M0) ∧ 0 ≤ ((f_R_pop_v M0)).toInt ∧ ((f_R_pop_v M0)).toInt < 65536 := sq_R_pop (d := d) (ρ := ρ) (Q := fun x M' => SR d ρ M' ∧ 0 ≤ (x).toInt ∧ (x).toInt < 65536) M0 s_M0  (fun _ _ h0 h1 => ⟨h0, h1⟩)
set_option maxRecDepth 100000 in
set_option maxHeartbeats 4000000 in
theorem so_R_is_j1 {d : Int32} {ρ : Nat → Int32} {Q : Int32 → Prop} (x2 : Int32) (hp0 : isB x2) (hQ : ∀ (x : Int32), Q x) : ok_R_is_j1 x2 ∧ Q (f_R_is_j1_v x2) := by
  unfold ok_R_is_j1 f_R_is_j1_v
  (try dsimp only)
  refine And.intro (by assumption) ?_
  exact hQ _
set_option maxRecDepth 100000 in
set_option maxHeartbeats 4000000 in
theorem sq_R_is {d : Int32} {ρ : Nat → Int32} {Q : Int32 → Prop} (M0 : Mem) (a1 : Int32) (s_M0 : SR d ρ M0) (hQ : ∀ (x : Int32), Q x) : ok_R_is M0 a1 ∧ Q (f_R_is_v M0 a1) := by
  unfold ok_R_is f_R_is_v
  (try dsimp only)
  by_cases hc1 : ((M0 8 6) &&& a1) ≤ 0
  · skip
    refine ps_brp hc1 ?_
    (try simp only [if_pos hc1])
    exact so_R_is_j1 (d := d) (ρ := ρ) (0 : Int32) (by exact isB_0) hQ
  · skip
    refine ps_brn hc1 ?_
    (try simp only [if_neg hc1])
    exact so_R_is_j1 (d := d) (ρ := ρ) (1 : Int32) (by exact isB_1) hQ
theorem so_R_is {d : Int32} {ρ : Nat → Int32} (M0 : Mem) (a1 : Int32) (s_M0 : SR d ρ M0) : ok_R_is M0 a1 ∧ True := sq_R_is (d := d) (ρ := ρ) (Q := fun _ => True) M0 a1 s_M0  (fun _ => trivial)
set_option maxRecDepth 100000 in
set_option maxHeartbeats 4000000 in
theorem so_R_flag_j1 {d : Int32} {ρ : Nat → Int32} {Q : Mem → Prop} (M0 : Mem) (x3 : Int32) (s_M0 : SR d ρ M0) (hp0 : 0 ≤ (x3).toInt ∧ (x3).toInt < 256) (hQ : ∀ (M' : Mem), SR d ρ M' → Q M') : Q (f_R_flag_j1_m M0 x3) := by
  unfold f_R_flag_j1_m
  (try dsimp only)
  have s_M4 : SR d ρ (mst M0 8 6 x3) := SR.sr s_M0 (by assumption)
  generalize e_M4 : mst M0 8 6 x3 = M4 at s_M4 ⊢
  exact hQ _ s_M4
set_option maxRecDepth 100000 in
set_option maxHeartbeats 4000000 in
theorem sq_R_flag {d : Int32} {ρ : Nat → Int32} {Q : Mem → Prop} (M0 : Mem) (a1 : Int32) (a2 : Int32) (s_M0 : SR d ρ M0) (hp0 : 0 ≤ (a1).toInt ∧ (a1).toInt < 256) (hQ : ∀ (M' : Mem), SR d ρ M' → Q M') : Q (f_R_flag_m M0 a1 a2) := by
  unfold f_R_flag_m
  (try dsimp only)
  by_cases hc1 : a2 = 0
  · skip
    (try simp only [if_pos hc1])
    exact so_R_flag_j1 (d := d) (ρ := ρ) M0 ((M0 8 6) &&& (a1 ^^^ (-1 : Int32))) s_M0 (by exact andl_rng (s_M0.r)) hQ
  · skip
    (try simp only [if_neg hc1])
    exact so_R_flag_j1 (d := d) (ρ := ρ) M0 ((M0 8 6) ||| a1) s_M0 (by exact oct_or (s_M0.r) ((by first | assumption | omega))) hQ
theorem so_R_flag {d : Int32} {ρ : Nat → Int32} (M0 : Mem) (a1 : Int32) (a2 : Int32) (s_M0 : SR d ρ M0) (hp0 : 0 ≤ (a1).toInt ∧ (a1).toInt < 256) : SR d ρ (f_R_flag_m M0 a1 a2) := sq_R_flag (d := d) (ρ := ρ) (Q := fun M' => SR d ρ M') M0 a1 a2 s_M0 hp0 (fun _ h0 => h0)
set_option maxRecDepth 100000 in
set_option maxHeartbeats 4000000 in
theorem so_R_flagged_j4 {d : Int32} {ρ : Nat → Int32} {Q : Mem → Prop} (M0 : Mem) (x24 : Int32) (x36 : Int32) (x42 : Int32) (x45 : Int32) (s_M0 : SR d ρ M0) (hp0 : 0 ≤ (x24).toInt ∧ (x24).toInt < 256) (hp1 : 0 ≤ (x36).toInt ∧ (x36).toInt < 256) (hp2 : 0 ≤ (x42).toInt ∧ (x42).toInt < 256) (hp3 : 0 ≤ (x45).toInt ∧ (x45).toInt < 256) (hQ : ∀ (M' : Mem), SR d ρ M' → Q M') : Q (f_R_flagged_j4_m M0 x24 x36 x42 x45) := by
  unfold f_R_flagged_j4_m
  (try dsimp only)
  have s_M46 : SR d ρ (mst M0 8 6 (((x24 ||| x36) ||| x42) ||| x45)) := SR.sr s_M0 (oct_or (oct_or (oct_or (by assumption) (by assumption)) (by assumption)) (by assumption))
  generalize e_M46 : mst M0 8 6 (((x24 ||| x36) ||| x42) ||| x45) = M46 at s_M46 ⊢
  exact hQ _ s_M46
set_option maxRecDepth 100000 in
set_option maxHeartbeats 4000000 in
theorem so_R_flagged_j3 {d : Int32} {ρ : Nat → Int32} {Q : Mem → Prop} (M0 : Mem) (a4 : Int32) (x24 : Int32) (x36 : Int32) (x42 : Int32) (s_M0 : SR d ρ M0) (hp0 : 0 ≤ (x24).toInt ∧ (x24).toInt < 256) (hp1 : 0 ≤ (x36).toInt ∧ (x36).toInt < 256) (hp2 : 0 ≤ (x42).toInt ∧ (x42).toInt < 256) (hQ : ∀ (M' : Mem), SR d ρ M' → Q M') : Q (f_R_flagged_j3_m M0 a4 x24 x36 x42) := by
  unfold f_R_flagged_j3_m
  (try dsimp only)
  by_cases hc1 : a4 = 0
  · skip
    (try simp only [if_pos hc1])
    exact so_R_flagged_j4 (d := d) (ρ := ρ) M0 x24 x36 x42 (0 : Int32) s_M0 (by first | assumption | decide | (constructor <;> ((try simp only [ti_le, ti_lt, ti_eq, Int32.reduceToInt] at *) <;> omega))) (by first | assumption | decide | (constructor <;> ((try simp only [ti_le, ti_lt, ti_eq, Int32.reduceToInt] at *) <;> omega))) (by first | assumption | decide | (constructor <;> ((try simp only [ti_le, ti_lt, ti_eq, Int32.reduceToInt] at *) <;> omega))) (by first | assumption | exact by decide) hQ
  · skip
    (try simp only [if_neg hc1])
    exact so_R_flagged_j4 (d := d) (ρ := ρ) M0 x24 x36 x42 (16 : Int32) s_M0 (by first | assumption | decide | (constructor <;> ((try simp only [ti_le, ti_lt, ti_eq, Int32.reduceToInt] at *) <;> omega))) (by first | assumption | decide | (constructor <;> ((try simp only [ti_le, ti_lt, ti_eq, Int32.reduceToInt] at *) <;> omega))) (by first | assumption | decide | (constructor <;> ((try simp only [ti_le, ti_lt, ti_eq, Int32.reduceToInt] at *) <;> omega))) (by first | assumption | exact by decide) hQ
set_option maxRecDepth 100000 in
set_option maxHeartbeats 4000000 in
theorem so_R_flagged_j2 {d : Int32} {ρ : Nat → Int32} {Q : Mem → Prop} (M0 : Mem) (a3 : Int32) (a4 : Int32) (x24 : Int32) (x36 : Int32) (s_M0 : SR d ρ M0) (hp0 : 0 ≤ (x24).toInt ∧ (x24).toInt < 256) (hp1 : 0 ≤ (x36).toInt ∧ (x36).toInt < 256) (hQ : ∀ (M' : Mem), SR d ρ M' → Q M') : Q (f_R_flagged_j2_m M0 a3 a4 x24 x36) := by
  unfold f_R_flagged_j2_m
  (try dsimp only)
  by_cases hc1 : a3 = 0
  · skip
    (try simp only [if_pos hc1])
    exact so_R_flagged_j3 (d := d) (ρ := ρ) M0 a4 x24 x36 (0 : Int32) s_M0 (by first | assumption | decide | (constructor <;> ((try simp only [ti_le, ti_lt, ti_eq, Int32.reduceToInt] at *) <;> omega))) (by first | assumption | decide | (constructor <;> ((try simp only [ti_le, ti_lt, ti_eq, Int32.reduceToInt] at *) <;> omega))) (by first | assumption | exact by decide) hQ
  · skip
    (try simp only [if_neg hc1])
    exact so_R_flagged_j3 (d := d) (ρ := ρ) M0 a4 x24 x36 (32 : Int32) s_M0 (by first | assumption | decide | (constructor <;> ((try simp only [ti_le, ti_lt, ti_eq, Int32.reduceToInt] at *) <;> omega))) (by first | assumption | decide | (constructor <;> ((try simp only [ti_le, ti_lt, ti_eq, Int32.reduceToInt] at *) <;> omega))) (by first | assumption | exact by decide) hQ
set_option maxRecDepth 100000 in
set_option maxHeartbeats 4000000 in
theorem so_R_flagged_j1 {d : Int32} {ρ : Nat → Int32} {Q : Mem → Prop} (M0 : Mem) (a2 : Int32) (a3 : Int32) (a4 : Int32) (x24 : Int32) (s_M0 : SR d ρ M0) (hp0 : 0 ≤ (x24).toInt ∧ (x24).toInt < 256) (hQ : ∀ (M' : Mem), SR d ρ M' → Q M') : Q (f_R_flagged_j1_m M0 a2 a3 a4 x24) := by
  unfold f_R_flagged_j1_m
  (try dsimp only)
  by_cases hc1 : a2 = 0
  · skip
    (try simp only [if_pos hc1])
    exact so_R_flagged_j2 (d := d) (ρ := ρ) M0 a3 a4 x24 (0 : Int32) s_M0 (by first | assumption | decide | (constructor <;> ((try simp only [ti_le, ti_lt, ti_eq, Int32.reduceToInt] at *) <;> omega))) (by first | assumption | exact by decide) hQ
  · skip
    (try simp only [if_neg hc1])
    exact so_R_flagged_j2 (d := d) (ρ := ρ) M0 a3 a4 x24 (64 : Int32) s_M0 (by first | assumption | decide | (constructor <;> ((try simp only [ti_le, ti_lt, ti_eq, Int32.reduceToInt] at *) <;> omega))) (by first | assumption | exact by decide) hQ
set_option maxRecDepth 100000 in
set_option maxHeartbeats 4000000 in
theorem sq_R_flagged {d : Int32} {ρ : Nat → Int32} {Q : Mem → Prop} (M0 : Mem) (a1 : Int32) (a2 : Int32) (a3 : Int32) (a4 : Int32) (s_M0 : SR d ρ M0) (hQ : ∀ (M' : Mem), SR d ρ M' → Q M') : Q (f_R_flagged_m M0 a1 a2 a3 a4) := by
  unfold f_R_flagged_m
  (try dsimp only)
  by_cases hc1 : a1 = 0
  · skip
    (try simp only [if_pos hc1])
    exact so_R_flagged_j1 (d := d) (ρ := ρ) M0 a2 a3 a4 (0 : Int32) s_M0 (by first | assumption | exact by decide) hQ
  · skip
    (try simp only [if_neg hc1])
    exact so_R_flagged_j1 (d := d) (ρ := ρ) M0 a2 a3 a4 (128 : Int32) s_M0 (by first | assumption | exact by decide) hQ
theorem so_R_flagged {d : Int32} {ρ : Nat → Int32} (M0 : Mem) (a1 : Int32) (a2 : Int32) (a3 : Int32) (a4 : Int32) (s_M0 : SR d ρ M0) : SR d ρ (f_R_flagged_m M0 a1 a2 a3 a4) := sq_R_flagged (d := d) (ρ := ρ) (Q := fun M' => SR d ρ M') M0 a1 a2 a3 a4 s_M0  (fun _ h0 => h0)
set_option maxRecDepth 100000 in
set_option maxHeartbeats 4000000 in
theorem so_R_holds_j3 {d : Int32} {ρ : Nat → Int32} {Q : Int32 → Prop} (x16 : Int32) (hp0 : isB x16) (hQ : ∀ (x : Int32), Q x) : ok_R_holds_j3 x16 ∧ Q (f_R_holds_j3_v x16) := by
  unfold ok_R_holds_j3 f_R_holds_j3_v
  (try dsimp only)
  refine And.intro (by assumption) ?_
  exact hQ _
set_option maxRecDepth 100000 in
set_option maxHeartbeats 4000000 in
theorem so_R_holds_j2 {d : Int32} {ρ : Nat → Int32} {Q : Int32 → Prop} (x10 : Int32) (x14 : Int32) (hQ : ∀ (x : Int32), Q x) : ok_R_holds_j2 x10 x14 ∧ Q (f_R_holds_j2_v x10 x14) := by
  unfold ok_R_holds_j2 f_R_holds_j2_v
  (try dsimp only)
  by_cases hc1 : x10 = x14
  · skip
    refine ps_nrp hc1 ?_
    (try simp only [if_pos hc1])
    exact so_R_holds_j3 (d := d) (ρ := ρ) (1 : Int32) (by exact isB_1) hQ
  · skip
    refine ps_nrn hc1 ?_
    (try simp only [if_neg hc1])
    exact so_R_holds_j3 (d := d) (ρ := ρ) (0 : Int32) (by exact isB_0) hQ
set_option maxRecDepth 100000 in
set_option maxHeartbeats 4000000 in
theorem so_R_holds_j1 {d : Int32} {ρ : Nat → Int32} {Q : Int32 → Prop} (M0 : Mem) (a1 : Int32) (x9 : Int32) (s_M0 : SR d ρ M0) (hQ : ∀ (x : Int32), Q x) : ok_R_holds_j1 M0 a1 x9 ∧ Q (f_R_holds_j1_v M0 a1 x9) := by
  unfold ok_R_holds_j1 f_R_holds_j1_v
  (try dsimp only)
  have t_ := so_R_is (d := d) (ρ := ρ) M0 x9 s_M0 
  refine ps_and t_.1 ?_
  replace t_ := t_.2
  refine ps_let ?_
  generalize e_x10 : f_R_is_v M0 x9 = x10 at t_ ⊢
  by_cases hc1 : (a1 &&& (1 : Int32)) = (1 : Int32)
  · skip
    refine ps_nrp hc1 ?_
    (try simp only [if_pos hc1])
    exact so_R_holds_j2 (d := d) (ρ := ρ) x10 (1 : Int32) hQ
  · skip
    refine ps_nrn hc1 ?_
    (try simp only [if_neg hc1])
    exact so_R_holds_j2 (d := d) (ρ := ρ) x10 (0 : Int32) hQ
set_option maxRecDepth 100000 in
set_option maxHeartbeats 4000000 in
theorem sq_R_holds {d : Int32} {ρ : Nat → Int32} {Q : Int32 → Prop} (M0 : Mem) (a1 : Int32) (s_M0 : SR d ρ M0) (hQ : ∀ (x : Int32), Q x) : ok_R_holds M0 a1 ∧ Q (f_R_holds_v M0 a1) := by
  unfold ok_R_holds f_R_holds_v
  (try dsimp only)
  by_cases hc1 : (2 : Int32) ≤ a1
  · skip
    refine ps_brp hc1 ?_
    (try simp only [if_pos hc1])
    exact so_R_holds_j1 (d := d) (ρ := ρ) M0 a1 (16 : Int32) s_M0 hQ
  · skip
    refine ps_brn hc1 ?_
    (try simp only [if_neg hc1])
    exact so_R_holds_j1 (d := d) (ρ := ρ) M0 a1 (128 : Int32) s_M0 hQ
theorem so_R_holds {d : Int32} {ρ : Nat → Int32} (M0 : Mem) (a1 : Int32) (s_M0 : SR d ρ M0) : ok_R_holds M0 a1 ∧ True := sq_R_holds (d := d) (ρ := ρ) (Q := fun _ => True) M0 a1 s_M0  (fun _ => trivial)
set_option maxRecDepth 100000 in
set_option maxHeartbeats 4000000 in
theorem so_R_reckons_j2 {d : Int32} {ρ : Nat → Int32} {Q : Mem → Prop} (M518 : Mem) (s_M518 : SR d ρ M518) (hQ : ∀ (M' : Mem), SR d ρ M' → Q M') : Q (f_R_reckons_j2_m M518) := by
  unfold f_R_reckons_j2_m
  (try dsimp only)
  exact hQ _ s_M518
set_option maxRecDepth 100000 in
set_option maxHeartbeats 4000000 in
theorem so_R_reckons_j7 {d : Int32} {ρ : Nat → Int32} {Q : Mem → Prop} (M617 : Mem) (x629 : Int32) (x635 : Int32) (x638 : Int32) (s_M617 : SR d ρ M617) (hQ : ∀ (M' : Mem), SR d ρ M' → Q M') : Q (f_R_reckons_j7_m M617 x629 x635 x638) := by
  unfold f_R_reckons_j7_m
  (try dsimp only)
  have t_ := so_R_flagged (d := d) (ρ := ρ) M617 x629 (1 : Int32) x635 x638 s_M617 
  generalize e_M639 : f_R_flagged_m M617 x629 (1 : Int32) x635 x638 = M639 at t_ ⊢
  have s_M639 := t_
  exact so_R_reckons_j2 (d := d) (ρ := ρ) M639 s_M639 hQ
set_option maxRecDepth 100000 in
set_option maxHeartbeats 4000000 in
theorem so_R_reckons_j6 {d : Int32} {ρ : Nat → Int32} {Q : Mem → Prop} (x592 : Int32) (M617 : Mem) (x629 : Int32) (x635 : Int32) (s_M617 : SR d ρ M617) (hQ : ∀ (M' : Mem), SR d ρ M' → Q M') : Q (f_R_reckons_j6_m x592 M617 x629 x635) := by
  unfold f_R_reckons_j6_m
  (try dsimp only)
  by_cases hc1 : 0 ≤ x592
  · skip
    (try simp only [if_pos hc1])
    exact so_R_reckons_j7 (d := d) (ρ := ρ) M617 x629 x635 (0 : Int32) s_M617 hQ
  · skip
    (try simp only [if_neg hc1])
    exact so_R_reckons_j7 (d := d) (ρ := ρ) M617 x629 x635 (1 : Int32) s_M617 hQ
set_option maxRecDepth 100000 in
set_option maxHeartbeats 4000000 in
theorem so_R_reckons_j5 {d : Int32} {ρ : Nat → Int32} {Q : Mem → Prop} (a2 : Int32) (x1 : Int32) (x346 : Int32) (x592 : Int32) (M617 : Mem) (x629 : Int32) (s_M617 : SR d ρ M617) (hQ : ∀ (M' : Mem), SR d ρ M' → Q M') : Q (f_R_reckons_j5_m a2 x1 x346 x592 M617 x629) := by
  unfold f_R_reckons_j5_m
  (try dsimp only)
  by_cases hc1 : 0 ≤ (((x1 &&& (15 : Int32)) - (a2 &&& (15 : Int32))) - x346)
  · skip
    (try simp only [if_pos hc1])
    exact so_R_reckons_j6 (d := d) (ρ := ρ) x592 M617 x629 (0 : Int32) s_M617 hQ
  · skip
    (try simp only [if_neg hc1])
    exact so_R_reckons_j6 (d := d) (ρ := ρ) x592 M617 x629 (1 : Int32) s_M617 hQ
set_option maxRecDepth 100000 in
set_option maxHeartbeats 4000000 in
theorem so_R_reckons_j4 {d : Int32} {ρ : Nat → Int32} {Q : Mem → Prop} (a2 : Int32) (x1 : Int32) (x346 : Int32) (x592 : Int32) (M617 : Mem) (s_M617 : SR d ρ M617) (hQ : ∀ (M' : Mem), SR d ρ M' → Q M') : Q (f_R_reckons_j4_m a2 x1 x346 x592 M617) := by
  unfold f_R_reckons_j4_m
  (try dsimp only)
  by_cases hc1 : (x592 &&& (255 : Int32)) = 0
  · skip
    (try simp only [if_pos hc1])
    exact so_R_reckons_j5 (d := d) (ρ := ρ) a2 x1 x346 x592 M617 (1 : Int32) s_M617 hQ
  · skip
    (try simp only [if_neg hc1])
    exact so_R_reckons_j5 (d := d) (ρ := ρ) a2 x1 x346 x592 M617 (0 : Int32) s_M617 hQ
set_option maxRecDepth 100000 in
set_option maxHeartbeats 4000000 in
theorem so_R_reckons_j3 {d : Int32} {ρ : Nat → Int32} {Q : Mem → Prop} (M0 : Mem) (a1 : Int32) (a2 : Int32) (x1 : Int32) (x346 : Int32) (s_M0 : SR d ρ M0) (hQ : ∀ (M' : Mem), SR d ρ M' → Q M') : Q (f_R_reckons_j3_m M0 a1 a2 x1 x346) := by
  unfold f_R_reckons_j3_m
  (try dsimp only)
  generalize e_x592 : ((x1 - a2) - x346) = x592
  by_cases hc1 : a1 = (7 : Int32)
  · skip
    (try simp only [if_pos hc1])
    exact so_R_reckons_j4 (d := d) (ρ := ρ) a2 x1 x346 x592 M0 s_M0 hQ
  · skip
    (try simp only [if_neg hc1])
    have s_M640 : SR d ρ (mst M0 8 7 (x592 &&& (255 : Int32))) := SR.sr s_M0 (and_lt (by decide))
    generalize e_M640 : mst M0 8 7 (x592 &&& (255 : Int32)) = M640 at s_M640 ⊢
    exact so_R_reckons_j4 (d := d) (ρ := ρ) a2 x1 x346 x592 M640 s_M640 hQ
set_option maxRecDepth 100000 in
set_option maxHeartbeats 4000000 in
theorem so_R_reckons_j10 {d : Int32} {ρ : Nat → Int32} {Q : Mem → Prop} (M654 : Mem) (x660 : Int32) (x663 : Int32) (s_M654 : SR d ρ M654) (hQ : ∀ (M' : Mem), SR d ρ M' → Q M') : Q (f_R_reckons_j10_m M654 x660 x663) := by
  unfold f_R_reckons_j10_m
  (try dsimp only)
  have t_ := so_R_flagged (d := d) (ρ := ρ) M654 x660 (0 : Int32) x663 (0 : Int32) s_M654 
  generalize e_M664 : f_R_flagged_m M654 x660 (0 : Int32) x663 (0 : Int32) = M664 at t_ ⊢
  have s_M664 := t_
  exact so_R_reckons_j2 (d := d) (ρ := ρ) M664 s_M664 hQ
set_option maxRecDepth 100000 in
set_option maxHeartbeats 4000000 in
theorem so_R_reckons_j9 {d : Int32} {ρ : Nat → Int32} {Q : Mem → Prop} (a1 : Int32) (M654 : Mem) (x660 : Int32) (s_M654 : SR d ρ M654) (hQ : ∀ (M' : Mem), SR d ρ M' → Q M') : Q (f_R_reckons_j9_m a1 M654 x660) := by
  unfold f_R_reckons_j9_m
  (try dsimp only)
  by_cases hc1 : a1 = (4 : Int32)
  · skip
    (try simp only [if_pos hc1])
    exact so_R_reckons_j10 (d := d) (ρ := ρ) M654 x660 (1 : Int32) s_M654 hQ
  · skip
    (try simp only [if_neg hc1])
    exact so_R_reckons_j10 (d := d) (ρ := ρ) M654 x660 (0 : Int32) s_M654 hQ
set_option maxRecDepth 100000 in
set_option maxHeartbeats 4000000 in
theorem so_R_reckons_j8 {d : Int32} {ρ : Nat → Int32} {Q : Mem → Prop} (M0 : Mem) (a1 : Int32) (x653 : Int32) (s_M0 : SR d ρ M0) (hp0 : 0 ≤ (x653).toInt ∧ (x653).toInt < 256) (hQ : ∀ (M' : Mem), SR d ρ M' → Q M') : Q (f_R_reckons_j8_m M0 a1 x653) := by
  unfold f_R_reckons_j8_m
  (try dsimp only)
  have s_M654 : SR d ρ (mst M0 8 7 x653) := SR.sr s_M0 (by assumption)
  generalize e_M654 : mst M0 8 7 x653 = M654 at s_M654 ⊢
  by_cases hc1 : (M654 8 7) = 0
  · skip
    (try simp only [if_pos hc1])
    exact so_R_reckons_j9 (d := d) (ρ := ρ) a1 M654 (1 : Int32) s_M654 hQ
  · skip
    (try simp only [if_neg hc1])
    exact so_R_reckons_j9 (d := d) (ρ := ρ) a1 M654 (0 : Int32) s_M654 hQ
set_option maxRecDepth 100000 in
set_option maxHeartbeats 4000000 in
theorem so_R_reckons_j13 {d : Int32} {ρ : Nat → Int32} {Q : Mem → Prop} (M666 : Mem) (x678 : Int32) (x684 : Int32) (x687 : Int32) (s_M666 : SR d ρ M666) (hQ : ∀ (M' : Mem), SR d ρ M' → Q M') : Q (f_R_reckons_j13_m M666 x678 x684 x687) := by
  unfold f_R_reckons_j13_m
  (try dsimp only)
  have t_ := so_R_flagged (d := d) (ρ := ρ) M666 x678 (0 : Int32) x684 x687 s_M666 
  generalize e_M688 : f_R_flagged_m M666 x678 (0 : Int32) x684 x687 = M688 at t_ ⊢
  have s_M688 := t_
  exact so_R_reckons_j2 (d := d) (ρ := ρ) M688 s_M688 hQ
set_option maxRecDepth 100000 in
set_option maxHeartbeats 4000000 in
theorem so_R_reckons_j12 {d : Int32} {ρ : Nat → Int32} {Q : Mem → Prop} (x665 : Int32) (M666 : Mem) (x678 : Int32) (x684 : Int32) (s_M666 : SR d ρ M666) (hQ : ∀ (M' : Mem), SR d ρ M' → Q M') : Q (f_R_reckons_j12_m x665 M666 x678 x684) := by
  unfold f_R_reckons_j12_m
  (try dsimp only)
  by_cases hc1 : x665 ≤ (255 : Int32)
  · skip
    (try simp only [if_pos hc1])
    exact so_R_reckons_j13 (d := d) (ρ := ρ) M666 x678 x684 (0 : Int32) s_M666 hQ
  · skip
    (try simp only [if_neg hc1])
    exact so_R_reckons_j13 (d := d) (ρ := ρ) M666 x678 x684 (1 : Int32) s_M666 hQ
set_option maxRecDepth 100000 in
set_option maxHeartbeats 4000000 in
theorem so_R_reckons_j11 {d : Int32} {ρ : Nat → Int32} {Q : Mem → Prop} (a2 : Int32) (x1 : Int32) (x346 : Int32) (x665 : Int32) (M666 : Mem) (x678 : Int32) (s_M666 : SR d ρ M666) (hQ : ∀ (M' : Mem), SR d ρ M' → Q M') : Q (f_R_reckons_j11_m a2 x1 x346 x665 M666 x678) := by
  unfold f_R_reckons_j11_m
  (try dsimp only)
  by_cases hc1 : (((x1 &&& (15 : Int32)) + (a2 &&& (15 : Int32))) + x346) ≤ (15 : Int32)
  · skip
    (try simp only [if_pos hc1])
    exact so_R_reckons_j12 (d := d) (ρ := ρ) x665 M666 x678 (0 : Int32) s_M666 hQ
  · skip
    (try simp only [if_neg hc1])
    exact so_R_reckons_j12 (d := d) (ρ := ρ) x665 M666 x678 (1 : Int32) s_M666 hQ
set_option maxRecDepth 100000 in
set_option maxHeartbeats 4000000 in
theorem so_R_reckons_j1 {d : Int32} {ρ : Nat → Int32} {Q : Mem → Prop} (M0 : Mem) (a1 : Int32) (a2 : Int32) (x1 : Int32) (x346 : Int32) (s_M0 : SR d ρ M0) (hp0 : 0 ≤ (a2).toInt ∧ (a2).toInt < 256) (hp1 : 0 ≤ (x1).toInt ∧ (x1).toInt < 256) (hQ : ∀ (M' : Mem), SR d ρ M' → Q M') : Q (f_R_reckons_j1_m M0 a1 a2 x1 x346) := by
  unfold f_R_reckons_j1_m
  (try dsimp only)
  by_cases hc1 : (2 : Int32) ≤ a1
  · skip
    (try simp only [if_pos hc1])
    by_cases hc2 : a1 = (2 : Int32)
    · skip
      (try simp only [if_pos hc2])
      exact so_R_reckons_j3 (d := d) (ρ := ρ) M0 a1 a2 x1 x346 s_M0 hQ
    · skip
      (try simp only [if_neg hc2])
      by_cases hc3 : a1 = (3 : Int32)
      · skip
        (try simp only [if_pos hc3])
        exact so_R_reckons_j3 (d := d) (ρ := ρ) M0 a1 a2 x1 x346 s_M0 hQ
      · skip
        (try simp only [if_neg hc3])
        by_cases hc4 : a1 = (7 : Int32)
        · skip
          (try simp only [if_pos hc4])
          exact so_R_reckons_j3 (d := d) (ρ := ρ) M0 a1 a2 x1 x346 s_M0 hQ
        · skip
          (try simp only [if_neg hc4])
          by_cases hc5 : a1 = (4 : Int32)
          · skip
            (try simp only [if_pos hc5])
            exact so_R_reckons_j8 (d := d) (ρ := ρ) M0 a1 (x1 &&& a2) s_M0 (by exact andl_rng (by assumption)) hQ
          · skip
            (try simp only [if_neg hc5])
            by_cases hc6 : a1 = (5 : Int32)
            · skip
              (try simp only [if_pos hc6])
              exact so_R_reckons_j8 (d := d) (ρ := ρ) M0 a1 (x1 ^^^ a2) s_M0 (by exact oct_xor (by assumption) (by assumption)) hQ
            · skip
              (try simp only [if_neg hc6])
              exact so_R_reckons_j8 (d := d) (ρ := ρ) M0 a1 (x1 ||| a2) s_M0 (by exact oct_or ((by first | assumption | omega)) ((by first | assumption | omega))) hQ
  · skip
    (try simp only [if_neg hc1])
    generalize e_x665 : ((x1 + a2) + x346) = x665
    have s_M666 : SR d ρ (mst M0 8 7 (x665 &&& (255 : Int32))) := SR.sr s_M0 (and_lt (by decide))
    generalize e_M666 : mst M0 8 7 (x665 &&& (255 : Int32)) = M666 at s_M666 ⊢
    by_cases hc2 : (M666 8 7) = 0
    · skip
      (try simp only [if_pos hc2])
      exact so_R_reckons_j11 (d := d) (ρ := ρ) a2 x1 x346 x665 M666 (1 : Int32) s_M666 hQ
    · skip
      (try simp only [if_neg hc2])
      exact so_R_reckons_j11 (d := d) (ρ := ρ) a2 x1 x346 x665 M666 (0 : Int32) s_M666 hQ
set_option maxRecDepth 100000 in
set_option maxHeartbeats 4000000 in
theorem so_R_reckons_j14 {d : Int32} {ρ : Nat → Int32} {Q : Mem → Prop} (M0 : Mem) (a1 : Int32) (a2 : Int32) (x1 : Int32) (s_M0 : SR d ρ M0) (hp0 : 0 ≤ (a2).toInt ∧ (a2).toInt < 256) (hp1 : 0 ≤ (x1).toInt ∧ (x1).toInt < 256) (hQ : ∀ (M' : Mem), SR d ρ M' → Q M') : Q (f_R_reckons_j14_m M0 a1 a2 x1) := by
  unfold f_R_reckons_j14_m
  (try dsimp only)
  exact so_R_reckons_j1 (d := d) (ρ := ρ) M0 a1 a2 x1 (0 : Int32) s_M0 (by first | assumption | decide | (constructor <;> ((try simp only [ti_le, ti_lt, ti_eq, Int32.reduceToInt] at *) <;> omega))) (by first | assumption | decide | (constructor <;> ((try simp only [ti_le, ti_lt, ti_eq, Int32.reduceToInt] at *) <;> omega))) hQ
set_option maxRecDepth 100000 in
set_option maxHeartbeats 4000000 in
theorem so_R_reckons_j15 {d : Int32} {ρ : Nat → Int32} {Q : Mem → Prop} (M0 : Mem) (a1 : Int32) (a2 : Int32) (x1 : Int32) (s_M0 : SR d ρ M0) (hp0 : 0 ≤ (a2).toInt ∧ (a2).toInt < 256) (hp1 : 0 ≤ (x1).toInt ∧ (x1).toInt < 256) (hQ : ∀ (M' : Mem), SR d ρ M' → Q M') : Q (f_R_reckons_j15_m M0 a1 a2 x1) := by
  unfold f_R_reckons_j15_m
  (try dsimp only)
  exact so_R_reckons_j1 (d := d) (ρ := ρ) M0 a1 a2 x1 (1 : Int32) s_M0 (by first | assumption | decide | (constructor <;> ((try simp only [ti_le, ti_lt, ti_eq, Int32.reduceToInt] at *) <;> omega))) (by first | assumption | decide | (constructor <;> ((try simp only [ti_le, ti_lt, ti_eq, Int32.reduceToInt] at *) <;> omega))) hQ
set_option maxRecDepth 100000 in
set_option maxHeartbeats 4000000 in
theorem sq_R_reckons {d : Int32} {ρ : Nat → Int32} {Q : Mem → Prop} (M0 : Mem) (a1 : Int32) (a2 : Int32) (s_M0 : SR d ρ M0) (hp0 : 0 ≤ (a2).toInt ∧ (a2).toInt < 256) (hQ : ∀ (M' : Mem), SR d ρ M' → Q M') : ok_R_reckons M0 a1 a2 ∧ Q (f_R_reckons_m M0 a1 a2) := by
  unfold ok_R_reckons f_R_reckons_m
  (try dsimp only)
  refine ps_let ?_
  generalize e_x1 : (M0 8 7) = x1
  have q0_x1 : 0 ≤ (x1).toInt ∧ (x1).toInt < 256 := by rw [← e_x1]; exact s_M0.r
  have t_ := so_R_is (d := d) (ρ := ρ) M0 (16 : Int32) s_M0 
  refine And.intro t_.1 ?_
  replace t_ := t_.2
  generalize e_x2 : f_R_is_v M0 (16 : Int32) = x2 at t_ ⊢
  by_cases hc1 : x2 = 0
  · skip
    (try simp only [if_pos hc1])
    exact so_R_reckons_j14 (d := d) (ρ := ρ) M0 a1 a2 x1 s_M0 (by first | assumption | decide | (constructor <;> ((try simp only [ti_le, ti_lt, ti_eq, Int32.reduceToInt] at *) <;> omega))) (by first | assumption | decide | (constructor <;> ((try simp only [ti_le, ti_lt, ti_eq, Int32.reduceToInt] at *) <;> omega))) hQ
  · skip
    (try simp only [if_neg hc1])
    by_cases hc2 : a1 = (1 : Int32)
    · skip
      (try simp only [if_pos hc2])
      exact so_R_reckons_j15 (d := d) (ρ := ρ) M0 a1 a2 x1 s_M0 (by first | assumption | decide | (constructor <;> ((try simp only [ti_le, ti_lt, ti_eq, Int32.reduceToInt] at *) <;> omega))) (by first | assumption | decide | (constructor <;> ((try simp only [ti_le, ti_lt, ti_eq, Int32.reduceToInt] at *) <;> omega))) hQ
    · skip
      (try simp only [if_neg hc2])
      by_cases hc3 : a1 = (3 : Int32)
      · skip
        (try simp only [if_pos hc3])
        exact so_R_reckons_j15 (d := d) (ρ := ρ) M0 a1 a2 x1 s_M0 (by first | assumption | decide | (constructor <;> ((try simp only [ti_le, ti_lt, ti_eq, Int32.reduceToInt] at *) <;> omega))) (by first | assumption | decide | (constructor <;> ((try simp only [ti_le, ti_lt, ti_eq, Int32.reduceToInt] at *) <;> omega))) hQ
      · skip
        (try simp only [if_neg hc3])
        exact so_R_reckons_j14 (d := d) (ρ := ρ) M0 a1 a2 x1 s_M0 (by first | assumption | decide | (constructor <;> ((try simp only [ti_le, ti_lt, ti_eq, Int32.reduceToInt] at *) <;> omega))) (by first | assumption | decide | (constructor <;> ((try simp only [ti_le, ti_lt, ti_eq, Int32.reduceToInt] at *) <;> omega))) hQ
theorem so_R_reckons {d : Int32} {ρ : Nat → Int32} (M0 : Mem) (a1 : Int32) (a2 : Int32) (s_M0 : SR d ρ M0) (hp0 : 0 ≤ (a2).toInt ∧ (a2).toInt < 256) : ok_R_reckons M0 a1 a2 ∧ SR d ρ (f_R_reckons_m M0 a1 a2) := sq_R_reckons (d := d) (ρ := ρ) (Q := fun M' => SR d ρ M') M0 a1 a2 s_M0 hp0 (fun _ h0 => h0)
set_option maxRecDepth 100000 in
set_option maxHeartbeats 4000000 in
theorem so_R_turned_j4 {d : Int32} {ρ : Nat → Int32} {Q : Int32 → Mem → Prop} (M0 : Mem) (x90 : Int32) (x96 : Int32) (x99 : Int32) (s_M0 : SR d ρ M0) (hp0 : 0 ≤ (x90).toInt ∧ (x90).toInt < 256) (hQ : ∀ (x : Int32) (M' : Mem), SR d ρ M' → 0 ≤ (x).toInt ∧ (x).toInt < 256 → Q x M') : Q (f_R_turned_j4_v M0 x90 x96 x99) (f_R_turned_j4_m M0 x90 x96 x99) := by
  unfold f_R_turned_j4_v f_R_turned_j4_m
  (try dsimp only)
  have t_ := so_R_flagged (d := d) (ρ := ρ) M0 x96 (0 : Int32) (0 : Int32) x99 s_M0 
  generalize e_M100 : f_R_flagged_m M0 x96 (0 : Int32) (0 : Int32) x99 = M100 at t_ ⊢
  have s_M100 := t_
  exact hQ _ _ s_M100 (by first | assumption | decide | (constructor <;> ((try simp only [ti_le, ti_lt, ti_eq, Int32.reduceToInt] at *) <;> omega)))
set_option maxRecDepth 100000 in
set_option maxHeartbeats 4000000 in
theorem so_R_turned_j3 {d : Int32} {ρ : Nat → Int32} {Q : Int32 → Mem → Prop} (M0 : Mem) (x89 : Int32) (x90 : Int32) (x96 : Int32) (s_M0 : SR d ρ M0) (hp0 : 0 ≤ (x90).toInt ∧ (x90).toInt < 256) (hQ : ∀ (x : Int32) (M' : Mem), SR d ρ M' → 0 ≤ (x).toInt ∧ (x).toInt < 256 → Q x M') : Q (f_R_turned_j3_v M0 x89 x90 x96) (f_R_turned_j3_m M0 x89 x90 x96) := by
  unfold f_R_turned_j3_v f_R_turned_j3_m
  (try dsimp only)
  by_cases hc1 : x89 = (1 : Int32)
  · skip
    (try simp only [if_pos hc1])
    exact so_R_turned_j4 (d := d) (ρ := ρ) M0 x90 x96 (1 : Int32) s_M0 (by first | assumption | decide | (constructor <;> ((try simp only [ti_le, ti_lt, ti_eq, Int32.reduceToInt] at *) <;> omega))) hQ
  · skip
    (try simp only [if_neg hc1])
    exact so_R_turned_j4 (d := d) (ρ := ρ) M0 x90 x96 (0 : Int32) s_M0 (by first | assumption | decide | (constructor <;> ((try simp only [ti_le, ti_lt, ti_eq, Int32.reduceToInt] at *) <;> omega))) hQ
set_option maxRecDepth 100000 in
set_option maxHeartbeats 4000000 in
theorem so_R_turned_j2 {d : Int32} {ρ : Nat → Int32} {Q : Int32 → Mem → Prop} (M0 : Mem) (x88 : Int32) (x89 : Int32) (s_M0 : SR d ρ M0) (hQ : ∀ (x : Int32) (M' : Mem), SR d ρ M' → 0 ≤ (x).toInt ∧ (x).toInt < 256 → Q x M') : Q (f_R_turned_j2_v M0 x88 x89) (f_R_turned_j2_m M0 x88 x89) := by
  unfold f_R_turned_j2_v f_R_turned_j2_m
  (try dsimp only)
  generalize e_x90 : (x88 &&& (255 : Int32)) = x90
  have q0_x90 : 0 ≤ (x90).toInt ∧ (x90).toInt < 256 := by rw [← e_x90]; exact and_lt (by decide)
  by_cases hc1 : x90 = 0
  · skip
    (try simp only [if_pos hc1])
    exact so_R_turned_j3 (d := d) (ρ := ρ) M0 x89 x90 (1 : Int32) s_M0 (by first | assumption | decide | (constructor <;> ((try simp only [ti_le, ti_lt, ti_eq, Int32.reduceToInt] at *) <;> omega))) hQ
  · skip
    (try simp only [if_neg hc1])
    exact so_R_turned_j3 (d := d) (ρ := ρ) M0 x89 x90 (0 : Int32) s_M0 (by first | assumption | decide | (constructor <;> ((try simp only [ti_le, ti_lt, ti_eq, Int32.reduceToInt] at *) <;> omega))) hQ
set_option maxRecDepth 100000 in
set_option maxHeartbeats 4000000 in
theorem so_R_turned_j1 {d : Int32} {ρ : Nat → Int32} {Q : Int32 → Mem → Prop} (M0 : Mem) (a1 : Int32) (a2 : Int32) (x59 : Int32) (s_M0 : SR d ρ M0) (hQ : ∀ (x : Int32) (M' : Mem), SR d ρ M' → 0 ≤ (x).toInt ∧ (x).toInt < 256 → Q x M') : Q (f_R_turned_j1_v M0 a1 a2 x59) (f_R_turned_j1_m M0 a1 a2 x59) := by
  unfold f_R_turned_j1_v f_R_turned_j1_m
  (try dsimp only)
  by_cases hc1 : (a1 = (0 : Int32))
  · skip
    (try simp only [if_pos hc1])
    generalize e_x101 : ((a2 <<< ((1 : Int32) &&& (31 : Int32))) ||| (a2 >>> ((7 : Int32) &&& (31 : Int32)))) = x101
    generalize e_x102 : (a2 >>> ((7 : Int32) &&& (31 : Int32))) = x102
    exact so_R_turned_j2 (d := d) (ρ := ρ) M0 x101 x102 s_M0 hQ
  · skip
    (try simp only [if_neg hc1])
    by_cases hc2 : (a1 = (1 : Int32))
    · skip
      (try simp only [if_pos hc2])
      generalize e_x103 : ((a2 >>> ((1 : Int32) &&& (31 : Int32))) ||| (a2 <<< ((7 : Int32) &&& (31 : Int32)))) = x103
      generalize e_x104 : (a2 &&& (1 : Int32)) = x104
      have q0_x104 : 0 ≤ (x104).toInt ∧ (x104).toInt < 2 := by rw [← e_x104]; exact and_lt (by decide)
      exact so_R_turned_j2 (d := d) (ρ := ρ) M0 x103 x104 s_M0 hQ
    · skip
      (try simp only [if_neg hc2])
      by_cases hc3 : (a1 = (2 : Int32))
      · skip
        (try simp only [if_pos hc3])
        generalize e_x105 : ((a2 <<< ((1 : Int32) &&& (31 : Int32))) ||| x59) = x105
        generalize e_x106 : (a2 >>> ((7 : Int32) &&& (31 : Int32))) = x106
        exact so_R_turned_j2 (d := d) (ρ := ρ) M0 x105 x106 s_M0 hQ
      · skip
        (try simp only [if_neg hc3])
        by_cases hc4 : (a1 = (3 : Int32))
        · skip
          (try simp only [if_pos hc4])
          generalize e_x107 : ((a2 >>> ((1 : Int32) &&& (31 : Int32))) ||| (x59 <<< ((7 : Int32) &&& (31 : Int32)))) = x107
          generalize e_x108 : (a2 &&& (1 : Int32)) = x108
          have q0_x108 : 0 ≤ (x108).toInt ∧ (x108).toInt < 2 := by rw [← e_x108]; exact and_lt (by decide)
          exact so_R_turned_j2 (d := d) (ρ := ρ) M0 x107 x108 s_M0 hQ
        · skip
          (try simp only [if_neg hc4])
          by_cases hc5 : (a1 = (4 : Int32))
          · skip
            (try simp only [if_pos hc5])
            generalize e_x109 : (a2 <<< ((1 : Int32) &&& (31 : Int32))) = x109
            generalize e_x110 : (a2 >>> ((7 : Int32) &&& (31 : Int32))) = x110
            exact so_R_turned_j2 (d := d) (ρ := ρ) M0 x109 x110 s_M0 hQ
          · skip
            (try simp only [if_neg hc5])
            by_cases hc6 : (a1 = (5 : Int32))
            · skip
              (try simp only [if_pos hc6])
              generalize e_x111 : ((a2 >>> ((1 : Int32) &&& (31 : Int32))) ||| (a2 &&& (128 : Int32))) = x111
              generalize e_x112 : (a2 &&& (1 : Int32)) = x112
              have q0_x112 : 0 ≤ (x112).toInt ∧ (x112).toInt < 2 := by rw [← e_x112]; exact and_lt (by decide)
              exact so_R_turned_j2 (d := d) (ρ := ρ) M0 x111 x112 s_M0 hQ
            · skip
              (try simp only [if_neg hc6])
              by_cases hc7 : (a1 = (6 : Int32))
              · skip
                (try simp only [if_pos hc7])
                generalize e_x113 : ((a2 <<< ((4 : Int32) &&& (31 : Int32))) ||| (a2 >>> ((4 : Int32) &&& (31 : Int32)))) = x113
                exact so_R_turned_j2 (d := d) (ρ := ρ) M0 x113 (0 : Int32) s_M0 hQ
              · skip
                (try simp only [if_neg hc7])
                generalize e_x114 : (a2 >>> ((1 : Int32) &&& (31 : Int32))) = x114
                generalize e_x115 : (a2 &&& (1 : Int32)) = x115
                have q0_x115 : 0 ≤ (x115).toInt ∧ (x115).toInt < 2 := by rw [← e_x115]; exact and_lt (by decide)
                exact so_R_turned_j2 (d := d) (ρ := ρ) M0 x114 x115 s_M0 hQ
set_option maxRecDepth 100000 in
set_option maxHeartbeats 4000000 in
theorem sq_R_turned {d : Int32} {ρ : Nat → Int32} {Q : Int32 → Mem → Prop} (M0 : Mem) (a1 : Int32) (a2 : Int32) (s_M0 : SR d ρ M0) (hQ : ∀ (x : Int32) (M' : Mem), SR d ρ M' → 0 ≤ (x).toInt ∧ (x).toInt < 256 → Q x M') : ok_R_turned M0 a1 a2 ∧ Q (f_R_turned_v M0 a1 a2) (f_R_turned_m M0 a1 a2) := by
  unfold ok_R_turned f_R_turned_v f_R_turned_m
  (try dsimp only)
  have t_ := so_R_is (d := d) (ρ := ρ) M0 (16 : Int32) s_M0 
  refine And.intro t_.1 ?_
  replace t_ := t_.2
  generalize e_x1 : f_R_is_v M0 (16 : Int32) = x1 at t_ ⊢
  by_cases hc1 : x1 = 0
  · skip
    (try simp only [if_pos hc1])
    exact so_R_turned_j1 (d := d) (ρ := ρ) M0 a1 a2 (0 : Int32) s_M0 hQ
  · skip
    (try simp only [if_neg hc1])
    exact so_R_turned_j1 (d := d) (ρ := ρ) M0 a1 a2 (1 : Int32) s_M0 hQ
theorem so_R_turned {d : Int32} {ρ : Nat → Int32} (M0 : Mem) (a1 : Int32) (a2 : Int32) (s_M0 : SR d ρ M0) : ok_R_turned M0 a1 a2 ∧ SR d ρ (f_R_turned_m M0 a1 a2) ∧ 0 ≤ ((f_R_turned_v M0 a1 a2)).toInt ∧ ((f_R_turned_v M0 a1 a2)).toInt < 256 := sq_R_turned (d := d) (ρ := ρ) (Q := fun x M' => SR d ρ M' ∧ 0 ≤ (x).toInt ∧ (x).toInt < 256) M0 a1 a2 s_M0  (fun _ _ h0 h1 => ⟨h0, h1⟩)
set_option maxRecDepth 100000 in
set_option maxHeartbeats 4000000 in
theorem so_R_adjusts_j2 {d : Int32} {ρ : Nat → Int32} {Q : Mem → Prop} (x35 : Int32) (M36 : Mem) (x40 : Int32) (s_M36 : SR d ρ M36) (hQ : ∀ (M' : Mem), SR d ρ M' → Q M') : ok_R_adjusts_j2 x35 M36 x40 ∧ Q (f_R_adjusts_j2_m x35 M36 x40) := by
  unfold ok_R_adjusts_j2 f_R_adjusts_j2_m
  (try dsimp only)
  have t_ := so_R_is (d := d) (ρ := ρ) M36 (64 : Int32) s_M36 
  refine And.intro t_.1 ?_
  replace t_ := t_.2
  generalize e_x41 : f_R_is_v M36 (64 : Int32) = x41 at t_ ⊢
  have t_ := so_R_flagged (d := d) (ρ := ρ) M36 x40 x41 (0 : Int32) x35 s_M36 
  generalize e_M42 : f_R_flagged_m M36 x40 x41 (0 : Int32) x35 = M42 at t_ ⊢
  have s_M42 := t_
  exact hQ _ s_M42
set_option maxRecDepth 100000 in
set_option maxHeartbeats 4000000 in
theorem so_R_adjusts_j1 {d : Int32} {ρ : Nat → Int32} {Q : Mem → Prop} (M0 : Mem) (x34 : Int32) (x35 : Int32) (s_M0 : SR d ρ M0) (hQ : ∀ (M' : Mem), SR d ρ M' → Q M') : ok_R_adjusts_j1 M0 x34 x35 ∧ Q (f_R_adjusts_j1_m M0 x34 x35) := by
  unfold ok_R_adjusts_j1 f_R_adjusts_j1_m
  (try dsimp only)
  refine ps_let ?_
  have s_M36 : SR d ρ (mst M0 8 7 (x34 &&& (255 : Int32))) := SR.sr s_M0 (and_lt (by decide))
  generalize e_M36 : mst M0 8 7 (x34 &&& (255 : Int32)) = M36 at s_M36 ⊢
  by_cases hc1 : (M36 8 7) = 0
  · skip
    refine ps_nrp hc1 ?_
    (try simp only [if_pos hc1])
    exact so_R_adjusts_j2 (d := d) (ρ := ρ) x35 M36 (1 : Int32) s_M36 hQ
  · skip
    refine ps_nrn hc1 ?_
    (try simp only [if_neg hc1])
    exact so_R_adjusts_j2 (d := d) (ρ := ρ) x35 M36 (0 : Int32) s_M36 hQ
set_option maxRecDepth 100000 in
set_option maxHeartbeats 4000000 in
theorem so_R_adjusts_j4 {d : Int32} {ρ : Nat → Int32} {Q : Mem → Prop} (M0 : Mem) (x49 : Int32) (x50 : Int32) (s_M0 : SR d ρ M0) (hQ : ∀ (M' : Mem), SR d ρ M' → Q M') : ok_R_adjusts_j4 M0 x49 x50 ∧ Q (f_R_adjusts_j4_m M0 x49 x50) := by
  unfold ok_R_adjusts_j4 f_R_adjusts_j4_m
  (try dsimp only)
  refine ps_let ?_
  generalize e_x53 : x49 + (6 : Int32) = x53
  exact so_R_adjusts_j1 (d := d) (ρ := ρ) M0 x53 x50 s_M0 hQ
set_option maxRecDepth 100000 in
set_option maxHeartbeats 4000000 in
theorem so_R_adjusts_j3 {d : Int32} {ρ : Nat → Int32} {Q : Mem → Prop} (M0 : Mem) (x2 : Int32) (x49 : Int32) (x50 : Int32) (s_M0 : SR d ρ M0) (hQ : ∀ (M' : Mem), SR d ρ M' → Q M') : ok_R_adjusts_j3 M0 x2 x49 x50 ∧ Q (f_R_adjusts_j3_m M0 x2 x49 x50) := by
  unfold ok_R_adjusts_j3 f_R_adjusts_j3_m
  (try dsimp only)
  have t_ := so_R_is (d := d) (ρ := ρ) M0 (32 : Int32) s_M0 
  refine ps_and t_.1 ?_
  replace t_ := t_.2
  refine ps_let ?_
  generalize e_x51 : f_R_is_v M0 (32 : Int32) = x51 at t_ ⊢
  by_cases hc1 : x51 = 0
  · skip
    refine ps_nrp hc1 ?_
    (try simp only [if_pos hc1])
    by_cases hc2 : x2 ≤ (9 : Int32)
    · skip
      refine ps_brp hc2 ?_
      (try simp only [if_pos hc2])
      exact so_R_adjusts_j1 (d := d) (ρ := ρ) M0 x49 x50 s_M0 hQ
    · skip
      refine ps_brn hc2 ?_
      (try simp only [if_neg hc2])
      exact so_R_adjusts_j4 (d := d) (ρ := ρ) M0 x49 x50 s_M0 hQ
  · skip
    refine ps_nrn hc1 ?_
    (try simp only [if_neg hc1])
    exact so_R_adjusts_j4 (d := d) (ρ := ρ) M0 x49 x50 s_M0 hQ
set_option maxRecDepth 100000 in
set_option maxHeartbeats 4000000 in
theorem so_R_adjusts_j5 {d : Int32} {ρ : Nat → Int32} {Q : Mem → Prop} (M0 : Mem) (x1 : Int32) (x2 : Int32) (s_M0 : SR d ρ M0) (hQ : ∀ (M' : Mem), SR d ρ M' → Q M') : ok_R_adjusts_j5 M0 x1 x2 ∧ Q (f_R_adjusts_j5_m M0 x1 x2) := by
  unfold ok_R_adjusts_j5 f_R_adjusts_j5_m
  (try dsimp only)
  refine ps_let ?_
  generalize e_x54 : x1 + (96 : Int32) = x54
  exact so_R_adjusts_j3 (d := d) (ρ := ρ) M0 x2 x54 (1 : Int32) s_M0 hQ
set_option maxRecDepth 100000 in
set_option maxHeartbeats 4000000 in
theorem so_R_adjusts_j6 {d : Int32} {ρ : Nat → Int32} {Q : Mem → Prop} (M0 : Mem) (x3 : Int32) (x59 : Int32) (s_M0 : SR d ρ M0) (hQ : ∀ (M' : Mem), SR d ρ M' → Q M') : ok_R_adjusts_j6 M0 x3 x59 ∧ Q (f_R_adjusts_j6_m M0 x3 x59) := by
  unfold ok_R_adjusts_j6 f_R_adjusts_j6_m
  (try dsimp only)
  have t_ := so_R_is (d := d) (ρ := ρ) M0 (32 : Int32) s_M0 
  refine ps_and t_.1 ?_
  replace t_ := t_.2
  refine ps_let ?_
  generalize e_x60 : f_R_is_v M0 (32 : Int32) = x60 at t_ ⊢
  by_cases hc1 : x60 = 0
  · skip
    refine ps_brp hc1 ?_
    (try simp only [if_pos hc1])
    exact so_R_adjusts_j1 (d := d) (ρ := ρ) M0 x59 x3 s_M0 hQ
  · skip
    refine ps_brn hc1 ?_
    (try simp only [if_neg hc1])
    refine ps_let ?_
    generalize e_x61 : x59 + (-6 : Int32) = x61
    exact so_R_adjusts_j1 (d := d) (ρ := ρ) M0 x61 x3 s_M0 hQ
set_option maxRecDepth 100000 in
set_option maxHeartbeats 4000000 in
theorem sq_R_adjusts {d : Int32} {ρ : Nat → Int32} {Q : Mem → Prop} (M0 : Mem) (s_M0 : SR d ρ M0) (hQ : ∀ (M' : Mem), SR d ρ M' → Q M') : ok_R_adjusts M0 ∧ Q (f_R_adjusts_m M0) := by
  unfold ok_R_adjusts f_R_adjusts_m
  (try dsimp only)
  refine ps_let ?_
  generalize e_x1 : (M0 8 7) = x1
  have q0_x1 : 0 ≤ (x1).toInt ∧ (x1).toInt < 256 := by rw [← e_x1]; exact s_M0.r
  refine ps_let ?_
  generalize e_x2 : (x1 &&& (15 : Int32)) = x2
  have q0_x2 : 0 ≤ (x2).toInt ∧ (x2).toInt < 16 := by rw [← e_x2]; exact and_lt (by decide)
  have t_ := so_R_is (d := d) (ρ := ρ) M0 (16 : Int32) s_M0 
  refine ps_and t_.1 ?_
  replace t_ := t_.2
  refine ps_let ?_
  generalize e_x3 : f_R_is_v M0 (16 : Int32) = x3 at t_ ⊢
  have t_ := so_R_is (d := d) (ρ := ρ) M0 (64 : Int32) s_M0 
  refine ps_and t_.1 ?_
  replace t_ := t_.2
  refine ps_let ?_
  generalize e_x4 : f_R_is_v M0 (64 : Int32) = x4 at t_ ⊢
  by_cases hc1 : x4 = 0
  · skip
    refine ps_brp hc1 ?_
    (try simp only [if_pos hc1])
    by_cases hc2 : x3 = 0
    · skip
      refine ps_nrp hc2 ?_
      (try simp only [if_pos hc2])
      by_cases hc3 : x1 ≤ (153 : Int32)
      · skip
        refine ps_brp hc3 ?_
        (try simp only [if_pos hc3])
        exact so_R_adjusts_j3 (d := d) (ρ := ρ) M0 x2 x1 x3 s_M0 hQ
      · skip
        refine ps_brn hc3 ?_
        (try simp only [if_neg hc3])
        exact so_R_adjusts_j5 (d := d) (ρ := ρ) M0 x1 x2 s_M0 hQ
    · skip
      refine ps_nrn hc2 ?_
      (try simp only [if_neg hc2])
      exact so_R_adjusts_j5 (d := d) (ρ := ρ) M0 x1 x2 s_M0 hQ
  · skip
    refine ps_brn hc1 ?_
    (try simp only [if_neg hc1])
    by_cases hc2 : x3 = 0
    · skip
      refine ps_brp hc2 ?_
      (try simp only [if_pos hc2])
      exact so_R_adjusts_j6 (d := d) (ρ := ρ) M0 x3 x1 s_M0 hQ
    · skip
      refine ps_brn hc2 ?_
      (try simp only [if_neg hc2])
      refine ps_let ?_
      generalize e_x62 : x1 + (-96 : Int32) = x62
      exact so_R_adjusts_j6 (d := d) (ρ := ρ) M0 x3 x62 s_M0 hQ
theorem so_R_adjusts {d : Int32} {ρ : Nat → Int32} (M0 : Mem) (s_M0 : SR d ρ M0) : ok_R_adjusts M0 ∧ SR d ρ (f_R_adjusts_m M0) := sq_R_adjusts (d := d) (ρ := ρ) (Q := fun M' => SR d ρ M') M0 s_M0  (fun _ h0 => h0)
set_option maxRecDepth 100000 in
set_option maxHeartbeats 4000000 in
theorem sq_R_jumps {d : Int32} {ρ : Nat → Int32} {Q : Mem → Prop} (M0 : Mem) (a1 : Int32) (a2 : Int32) (s_M0 : SR d ρ M0) (hQ : ∀ (M' : Mem), SR d ρ M' → Q M') : Q (f_R_jumps_m M0 a1 a2) := by
  unfold f_R_jumps_m
  (try dsimp only)
  by_cases hc1 : a1 = 0
  · skip
    (try simp only [if_pos hc1])
    exact hQ _ s_M0
  · skip
    (try simp only [if_neg hc1])
    have s_M1 : SR d ρ (mst M0 0 19 (a2 &&& (65535 : Int32))) := SR.sf s_M0 (by decide) (and_lt (by decide))
    generalize e_M1 : mst M0 0 19 (a2 &&& (65535 : Int32)) = M1 at s_M1 ⊢
    have s_M2 : SR d ρ (mst M1 0 20 ((M1 0 20) + (1 : Int32))) := SR.sf s_M1 (by decide) (any_rng _)
    generalize e_M2 : mst M1 0 20 ((M1 0 20) + (1 : Int32)) = M2 at s_M2 ⊢
    exact hQ _ s_M2
theorem so_R_jumps {d : Int32} {ρ : Nat → Int32} (M0 : Mem) (a1 : Int32) (a2 : Int32) (s_M0 : SR d ρ M0) : SR d ρ (f_R_jumps_m M0 a1 a2) := sq_R_jumps (d := d) (ρ := ρ) (Q := fun M' => SR d ρ M') M0 a1 a2 s_M0  (fun _ h0 => h0)
set_option maxRecDepth 100000 in
set_option maxHeartbeats 4000000 in
theorem sq_R_calls {d : Int32} {ρ : Nat → Int32} {Q : Mem → Prop} (M0 : Mem) (a1 : Int32) (a2 : Int32) (s_M0 : SR d ρ M0) (hp0 : 0 ≤ (a2).toInt ∧ (a2).toInt < 65536) (hQ : ∀ (M' : Mem), SR d ρ M' → Q M') : ok_R_calls M0 a1 a2 ∧ Q (f_R_calls_m M0 a1 a2) := by
  unfold ok_R_calls f_R_calls_m
  (try dsimp only)
  by_cases hc1 : a1 = 0
  · skip
    refine ps_nrp hc1 ?_
    refine And.intro trivial ?_
    (try simp only [if_pos hc1])
    exact hQ _ s_M0
  · skip
    refine ps_nrn hc1 ?_
    (try simp only [if_neg hc1])
    have t_ := so_R_push (d := d) (ρ := ρ) M0 (M0 0 19) s_M0 
    refine And.intro t_.1 ?_
    replace t_ := t_.2
    generalize e_M1 : f_R_push_m M0 (M0 0 19) = M1 at t_ ⊢
    have s_M1 := t_
    have s_M2 : SR d ρ (mst M1 0 19 a2) := SR.sf s_M1 (by decide) (by assumption)
    generalize e_M2 : mst M1 0 19 a2 = M2 at s_M2 ⊢
    have s_M3 : SR d ρ (mst M2 0 20 ((M2 0 20) + (1 : Int32))) := SR.sf s_M2 (by decide) (any_rng _)
    generalize e_M3 : mst M2 0 20 ((M2 0 20) + (1 : Int32)) = M3 at s_M3 ⊢
    exact hQ _ s_M3
theorem so_R_calls {d : Int32} {ρ : Nat → Int32} (M0 : Mem) (a1 : Int32) (a2 : Int32) (s_M0 : SR d ρ M0) (hp0 : 0 ≤ (a2).toInt ∧ (a2).toInt < 65536) : ok_R_calls M0 a1 a2 ∧ SR d ρ (f_R_calls_m M0 a1 a2) := sq_R_calls (d := d) (ρ := ρ) (Q := fun M' => SR d ρ M') M0 a1 a2 s_M0 hp0 (fun _ h0 => h0)
set_option maxRecDepth 100000 in
set_option maxHeartbeats 4000000 in
theorem so_R_accumulator_j1 {d : Int32} {ρ : Nat → Int32} {Q : Mem → Prop} (M20 : Mem) (s_M20 : SR d ρ M20) (hQ : ∀ (M' : Mem), SR d ρ M' → Q M') : Q (f_R_accumulator_j1_m M20) := by
  unfold f_R_accumulator_j1_m
  (try dsimp only)
  exact hQ _ s_M20
set_option maxRecDepth 100000 in
set_option maxHeartbeats 4000000 in
theorem so_R_accumulator_j2 {d : Int32} {ρ : Nat → Int32} {Q : Mem → Prop} (M0 : Mem) (x30 : Int32) (s_M0 : SR d ρ M0) (hQ : ∀ (M' : Mem), SR d ρ M' → Q M') : Q (f_R_accumulator_j2_m M0 x30) := by
  unfold f_R_accumulator_j2_m
  (try dsimp only)
  have t_ := so_R_flag (d := d) (ρ := ρ) M0 (16 : Int32) x30 s_M0 (by first | assumption | exact by decide)
  generalize e_M31 : f_R_flag_m M0 (16 : Int32) x30 = M31 at t_ ⊢
  have s_M31 := t_
  have t_ := so_R_flag (d := d) (ρ := ρ) M31 (64 : Int32) (0 : Int32) s_M31 (by first | assumption | exact by decide)
  generalize e_M32 : f_R_flag_m M31 (64 : Int32) (0 : Int32) = M32 at t_ ⊢
  have s_M32 := t_
  have t_ := so_R_flag (d := d) (ρ := ρ) M32 (32 : Int32) (0 : Int32) s_M32 (by first | assumption | exact by decide)
  generalize e_M33 : f_R_flag_m M32 (32 : Int32) (0 : Int32) = M33 at t_ ⊢
  have s_M33 := t_
  exact so_R_accumulator_j1 (d := d) (ρ := ρ) M33 s_M33 hQ
set_option maxRecDepth 100000 in
set_option maxHeartbeats 4000000 in
theorem so_R_accumulator_j3 {d : Int32} {ρ : Nat → Int32} {Q : Mem → Prop} (M0 : Mem) (s_M0 : SR d ρ M0) (hQ : ∀ (M' : Mem), SR d ρ M' → Q M') : Q (f_R_accumulator_j3_m M0) := by
  unfold f_R_accumulator_j3_m
  (try dsimp only)
  exact so_R_accumulator_j2 (d := d) (ρ := ρ) M0 (1 : Int32) s_M0 hQ
set_option maxRecDepth 100000 in
set_option maxHeartbeats 4000000 in
theorem sq_R_accumulator {d : Int32} {ρ : Nat → Int32} {Q : Mem → Prop} (M0 : Mem) (a1 : Int32) (s_M0 : SR d ρ M0) (hQ : ∀ (M' : Mem), SR d ρ M' → Q M') : ok_R_accumulator M0 a1 ∧ Q (f_R_accumulator_m M0 a1) := by
  unfold ok_R_accumulator f_R_accumulator_m
  (try dsimp only)
  by_cases hc1 : (a1 = (4 : Int32))
  · skip
    refine ps_brp hc1 ?_
    (try simp only [if_pos hc1])
    have t_ := so_R_adjusts (d := d) (ρ := ρ) M0 s_M0 
    refine And.intro t_.1 ?_
    replace t_ := t_.2
    generalize e_M21 : f_R_adjusts_m M0 = M21 at t_ ⊢
    have s_M21 := t_
    exact so_R_accumulator_j1 (d := d) (ρ := ρ) M21 s_M21 hQ
  · skip
    refine ps_brn hc1 ?_
    (try simp only [if_neg hc1])
    by_cases hc2 : (a1 = (5 : Int32))
    · skip
      refine ps_brp hc2 ?_
      refine And.intro trivial ?_
      (try simp only [if_pos hc2])
      have s_M22 : SR d ρ (mst M0 8 7 ((M0 8 7) ^^^ (255 : Int32))) := SR.sr s_M0 (oct_xor s_M0.r (by decide))
      generalize e_M22 : mst M0 8 7 ((M0 8 7) ^^^ (255 : Int32)) = M22 at s_M22 ⊢
      have t_ := so_R_flag (d := d) (ρ := ρ) M22 (64 : Int32) (1 : Int32) s_M22 (by first | assumption | exact by decide)
      generalize e_M23 : f_R_flag_m M22 (64 : Int32) (1 : Int32) = M23 at t_ ⊢
      have s_M23 := t_
      have t_ := so_R_flag (d := d) (ρ := ρ) M23 (32 : Int32) (1 : Int32) s_M23 (by first | assumption | exact by decide)
      generalize e_M24 : f_R_flag_m M23 (32 : Int32) (1 : Int32) = M24 at t_ ⊢
      have s_M24 := t_
      exact so_R_accumulator_j1 (d := d) (ρ := ρ) M24 s_M24 hQ
    · skip
      refine ps_brn hc2 ?_
      (try simp only [if_neg hc2])
      by_cases hc3 : (a1 = (6 : Int32) ∨ a1 = (7 : Int32))
      · skip
        refine ps_brp hc3 ?_
        (try simp only [if_pos hc3])
        by_cases hc4 : a1 = (6 : Int32)
        · skip
          refine ps_brp hc4 ?_
          refine And.intro trivial ?_
          (try simp only [if_pos hc4])
          exact so_R_accumulator_j3 (d := d) (ρ := ρ) M0 s_M0 hQ
        · skip
          refine ps_brn hc4 ?_
          (try simp only [if_neg hc4])
          have t_ := so_R_is (d := d) (ρ := ρ) M0 (16 : Int32) s_M0 
          refine And.intro t_.1 ?_
          replace t_ := t_.2
          generalize e_x34 : f_R_is_v M0 (16 : Int32) = x34 at t_ ⊢
          by_cases hc5 : x34 = 0
          · skip
            (try simp only [if_pos hc5])
            exact so_R_accumulator_j3 (d := d) (ρ := ρ) M0 s_M0 hQ
          · skip
            (try simp only [if_neg hc5])
            exact so_R_accumulator_j2 (d := d) (ρ := ρ) M0 (0 : Int32) s_M0 hQ
      · skip
        refine ps_brn hc3 ?_
        (try simp only [if_neg hc3])
        have t_ := so_R_turned (d := d) (ρ := ρ) M0 a1 (M0 8 7) s_M0 
        refine And.intro t_.1 ?_
        replace t_ := t_.2
        generalize e_x35 : f_R_turned_v M0 a1 (M0 8 7) = x35 at t_ ⊢
        generalize e_M36 : f_R_turned_m M0 a1 (M0 8 7) = M36 at t_ ⊢
        obtain ⟨s_M36, q0_x35⟩ := t_
        have s_M37 : SR d ρ (mst M36 8 7 x35) := SR.sr s_M36 (by assumption)
        generalize e_M37 : mst M36 8 7 x35 = M37 at s_M37 ⊢
        have t_ := so_R_flag (d := d) (ρ := ρ) M37 (128 : Int32) (0 : Int32) s_M37 (by first | assumption | exact by decide)
        generalize e_M38 : f_R_flag_m M37 (128 : Int32) (0 : Int32) = M38 at t_ ⊢
        have s_M38 := t_
        exact so_R_accumulator_j1 (d := d) (ρ := ρ) M38 s_M38 hQ
theorem so_R_accumulator {d : Int32} {ρ : Nat → Int32} (M0 : Mem) (a1 : Int32) (s_M0 : SR d ρ M0) : ok_R_accumulator M0 a1 ∧ SR d ρ (f_R_accumulator_m M0 a1) := sq_R_accumulator (d := d) (ρ := ρ) (Q := fun M' => SR d ρ M') M0 a1 s_M0  (fun _ h0 => h0)
set_option maxRecDepth 100000 in
set_option maxHeartbeats 4000000 in
theorem so_R_first_j1 {d : Int32} {ρ : Nat → Int32} {Q : Mem → Prop} (M214 : Mem) (s_M214 : SR d ρ M214) (hQ : ∀ (M' : Mem), SR d ρ M' → Q M') : Q (f_R_first_j1_m M214) := by
  unfold f_R_first_j1_m
  (try dsimp only)
  exact hQ _ s_M214
set_option maxRecDepth 100000 in
set_option maxHeartbeats 4000000 in
theorem so_R_first_j2 {d : Int32} {ρ : Nat → Int32} {Q : Mem → Prop} (M216 : Mem) (x217 : Int32) (x221 : Int32) (s_M216 : SR d ρ M216) (hQ : ∀ (M' : Mem), SR d ρ M' → Q M') : Q (f_R_first_j2_m M216 x217 x221) := by
  unfold f_R_first_j2_m
  (try dsimp only)
  have t_ := so_R_jumps (d := d) (ρ := ρ) M216 x221 ((M216 0 19) + x217) s_M216 
  generalize e_M222 : f_R_jumps_m M216 x221 ((M216 0 19) + x217) = M222 at t_ ⊢
  have s_M222 := t_
  exact so_R_first_j1 (d := d) (ρ := ρ) M222 s_M222 hQ
set_option maxRecDepth 100000 in
set_option maxHeartbeats 4000000 in
theorem so_R_first_j3 {d : Int32} {ρ : Nat → Int32} {Q : Mem → Prop} (M216 : Mem) (x217 : Int32) (s_M216 : SR d ρ M216) (hQ : ∀ (M' : Mem), SR d ρ M' → Q M') : Q (f_R_first_j3_m M216 x217) := by
  unfold f_R_first_j3_m
  (try dsimp only)
  exact so_R_first_j2 (d := d) (ρ := ρ) M216 x217 (1 : Int32) s_M216 hQ
set_option maxRecDepth 100000 in
set_option maxHeartbeats 4000000 in
theorem so_R_first_j5 {d : Int32} {ρ : Nat → Int32} {Q : Mem → Prop} (x231 : Int32) (x232 : Int32) (M245 : Mem) (x250 : Int32) (s_M245 : SR d ρ M245) (hQ : ∀ (M' : Mem), SR d ρ M' → Q M') : ok_R_first_j5 x231 x232 M245 x250 ∧ Q (f_R_first_j5_m x231 x232 M245 x250) := by
  unfold ok_R_first_j5 f_R_first_j5_m
  (try dsimp only)
  have t_ := so_R_flag (d := d) (ρ := ρ) M245 (16 : Int32) x250 s_M245 (by first | assumption | exact by decide)
  refine ps_let ?_
  generalize e_M251 : f_R_flag_m M245 (16 : Int32) x250 = M251 at t_ ⊢
  have s_M251 := t_
  have t_ := so_R_setPair (d := d) (ρ := ρ) M251 (2 : Int32) (x231 + x232) s_M251 (by first | assumption | exact by decide)
  refine And.intro t_.1 ?_
  replace t_ := t_.2
  generalize e_M252 : f_R_setPair_m M251 (2 : Int32) (x231 + x232) = M252 at t_ ⊢
  have s_M252 := t_
  have s_M253 : SR d ρ (mst M252 0 20 ((M252 0 20) + (1 : Int32))) := SR.sf s_M252 (by decide) (any_rng _)
  generalize e_M253 : mst M252 0 20 ((M252 0 20) + (1 : Int32)) = M253 at s_M253 ⊢
  exact so_R_first_j1 (d := d) (ρ := ρ) M253 s_M253 hQ
set_option maxRecDepth 100000 in
set_option maxHeartbeats 4000000 in
theorem so_R_first_j4 {d : Int32} {ρ : Nat → Int32} {Q : Mem → Prop} (x231 : Int32) (x232 : Int32) (M233 : Mem) (x244 : Int32) (s_M233 : SR d ρ M233) (hQ : ∀ (M' : Mem), SR d ρ M' → Q M') : ok_R_first_j4 x231 x232 M233 x244 ∧ Q (f_R_first_j4_m x231 x232 M233 x244) := by
  unfold ok_R_first_j4 f_R_first_j4_m
  (try dsimp only)
  have t_ := so_R_flag (d := d) (ρ := ρ) M233 (32 : Int32) x244 s_M233 (by first | assumption | exact by decide)
  refine ps_let ?_
  generalize e_M245 : f_R_flag_m M233 (32 : Int32) x244 = M245 at t_ ⊢
  have s_M245 := t_
  by_cases hc1 : (x231 + x232) ≤ (65535 : Int32)
  · skip
    refine ps_brp hc1 ?_
    (try simp only [if_pos hc1])
    exact so_R_first_j5 (d := d) (ρ := ρ) x231 x232 M245 (0 : Int32) s_M245 hQ
  · skip
    refine ps_brn hc1 ?_
    (try simp only [if_neg hc1])
    exact so_R_first_j5 (d := d) (ρ := ρ) x231 x232 M245 (1 : Int32) s_M245 hQ
set_option maxRecDepth 100000 in
set_option maxHeartbeats 4000000 in
theorem so_R_first_j8 {d : Int32} {ρ : Nat → Int32} {Q : Mem → Prop} (M288 : Mem) (x291 : Int32) (s_M288 : SR d ρ M288) (hQ : ∀ (M' : Mem), SR d ρ M' → Q M') : ok_R_first_j8 M288 x291 ∧ Q (f_R_first_j8_m M288 x291) := by
  unfold ok_R_first_j8 f_R_first_j8_m
  (try dsimp only)
  have t_ := so_R_setPair (d := d) (ρ := ρ) M288 (2 : Int32) x291 s_M288 (by first | assumption | exact by decide)
  refine And.intro t_.1 ?_
  replace t_ := t_.2
  generalize e_M292 : f_R_setPair_m M288 (2 : Int32) x291 = M292 at t_ ⊢
  have s_M292 := t_
  exact so_R_first_j1 (d := d) (ρ := ρ) M292 s_M292 hQ
set_option maxRecDepth 100000 in
set_option maxHeartbeats 4000000 in
theorem so_R_first_j7 {d : Int32} {ρ : Nat → Int32} {Q : Mem → Prop} (x2 : Int32) (x278 : Int32) (M288 : Mem) (s_M288 : SR d ρ M288) (hQ : ∀ (M' : Mem), SR d ρ M' → Q M') : ok_R_first_j7 x2 x278 M288 ∧ Q (f_R_first_j7_m x2 x278 M288) := by
  unfold ok_R_first_j7 f_R_first_j7_m
  (try dsimp only)
  by_cases hc1 : x2 ≤ (1 : Int32)
  · skip
    refine ps_brp hc1 ?_
    refine And.intro trivial ?_
    (try simp only [if_pos hc1])
    exact so_R_first_j1 (d := d) (ρ := ρ) M288 s_M288 hQ
  · skip
    refine ps_brn hc1 ?_
    (try simp only [if_neg hc1])
    by_cases hc2 : x2 = (2 : Int32)
    · skip
      refine ps_nrp hc2 ?_
      (try simp only [if_pos hc2])
      exact so_R_first_j8 (d := d) (ρ := ρ) M288 (x278 + (1 : Int32)) s_M288 hQ
    · skip
      refine ps_nrn hc2 ?_
      (try simp only [if_neg hc2])
      exact so_R_first_j8 (d := d) (ρ := ρ) M288 (x278 - (1 : Int32)) s_M288 hQ
set_option maxRecDepth 100000 in
set_option maxHeartbeats 4000000 in
theorem so_R_first_j6 {d : Int32} {ρ : Nat → Int32} {Q : Mem → Prop} (M0 : Mem) (x1 : Int32) (x2 : Int32) (x278 : Int32) (s_M0 : SR d ρ M0) (hQ : ∀ (M' : Mem), SR d ρ M' → Q M') : ok_R_first_j6 M0 x1 x2 x278 ∧ Q (f_R_first_j6_m M0 x1 x2 x278) := by
  unfold ok_R_first_j6 f_R_first_j6_m
  (try dsimp only)
  by_cases hc1 : x1 = 0
  · skip
    refine ps_nrp hc1 ?_
    (try simp only [if_pos hc1])
    have t_ := so_R_writes (d := d) (ρ := ρ) M0 x278 (M0 8 7) s_M0 
    refine ps_and t_.1 ?_
    replace t_ := t_.2
    refine ps_let ?_
    generalize e_M296 : f_R_writes_m M0 x278 (M0 8 7) = M296 at t_ ⊢
    have s_M296 := t_
    exact so_R_first_j7 (d := d) (ρ := ρ) x2 x278 M296 s_M296 hQ
  · skip
    refine ps_nrn hc1 ?_
    (try simp only [if_neg hc1])
    have t_ := so_R_reads (d := d) (ρ := ρ) M0 x278 s_M0 
    refine ps_and t_.1 ?_
    replace t_ := t_.2
    refine ps_let ?_
    refine ps_let ?_
    generalize e_x293 : f_R_reads_v M0 x278 = x293 at t_ ⊢
    generalize e_M294 : f_R_reads_m M0 x278 = M294 at t_ ⊢
    obtain ⟨s_M294, q0_x293⟩ := t_
    refine ps_let ?_
    have s_M295 : SR d ρ (mst M294 8 7 x293) := SR.sr s_M294 (by assumption)
    generalize e_M295 : mst M294 8 7 x293 = M295 at s_M295 ⊢
    exact so_R_first_j7 (d := d) (ρ := ρ) x2 x278 M295 s_M295 hQ
set_option maxRecDepth 100000 in
set_option maxHeartbeats 4000000 in
theorem so_R_first_j9 {d : Int32} {ρ : Nat → Int32} {Q : Mem → Prop} (M0 : Mem) (x2 : Int32) (x304 : Int32) (s_M0 : SR d ρ M0) (hp0 : 0 ≤ (x2).toInt ∧ (x2).toInt < 4) (hQ : ∀ (M' : Mem), SR d ρ M' → Q M') : ok_R_first_j9 M0 x2 x304 ∧ Q (f_R_first_j9_m M0 x2 x304) := by
  unfold ok_R_first_j9 f_R_first_j9_m
  (try dsimp only)
  have t_ := so_R_setPair (d := d) (ρ := ρ) M0 x2 x304 s_M0 (by first | assumption | decide | (constructor <;> ((try simp only [ti_le, ti_lt, ti_eq, Int32.reduceToInt] at *) <;> omega)))
  refine And.intro t_.1 ?_
  replace t_ := t_.2
  generalize e_M305 : f_R_setPair_m M0 x2 x304 = M305 at t_ ⊢
  have s_M305 := t_
  have s_M306 : SR d ρ (mst M305 0 20 ((M305 0 20) + (1 : Int32))) := SR.sf s_M305 (by decide) (any_rng _)
  generalize e_M306 : mst M305 0 20 ((M305 0 20) + (1 : Int32)) = M306 at s_M306 ⊢
  exact so_R_first_j1 (d := d) (ρ := ρ) M306 s_M306 hQ
set_option maxRecDepth 100000 in
set_option maxHeartbeats 4000000 in
theorem so_R_first_j14 {d : Int32} {ρ : Nat → Int32} {Q : Mem → Prop} (M410 : Mem) (x419 : Int32) (s_M410 : SR d ρ M410) (hQ : ∀ (M' : Mem), SR d ρ M' → Q M') : Q (f_R_first_j14_m M410 x419) := by
  unfold f_R_first_j14_m
  (try dsimp only)
  have t_ := so_R_flag (d := d) (ρ := ρ) M410 (32 : Int32) x419 s_M410 (by first | assumption | exact by decide)
  generalize e_M420 : f_R_flag_m M410 (32 : Int32) x419 = M420 at t_ ⊢
  have s_M420 := t_
  exact so_R_first_j1 (d := d) (ρ := ρ) M420 s_M420 hQ
set_option maxRecDepth 100000 in
set_option maxHeartbeats 4000000 in
theorem so_R_first_j13 {d : Int32} {ρ : Nat → Int32} {Q : Mem → Prop} (x309 : Int32) (M410 : Mem) (x416 : Int32) (s_M410 : SR d ρ M410) (hQ : ∀ (M' : Mem), SR d ρ M' → Q M') : Q (f_R_first_j13_m x309 M410 x416) := by
  unfold f_R_first_j13_m
  (try dsimp only)
  by_cases hc1 : (x309 &&& (15 : Int32)) = x416
  · skip
    (try simp only [if_pos hc1])
    exact so_R_first_j14 (d := d) (ρ := ρ) M410 (1 : Int32) s_M410 hQ
  · skip
    (try simp only [if_neg hc1])
    exact so_R_first_j14 (d := d) (ρ := ρ) M410 (0 : Int32) s_M410 hQ
set_option maxRecDepth 100000 in
set_option maxHeartbeats 4000000 in
theorem so_R_first_j12 {d : Int32} {ρ : Nat → Int32} {Q : Mem → Prop} (a2 : Int32) (x309 : Int32) (M396 : Mem) (x409 : Int32) (s_M396 : SR d ρ M396) (hQ : ∀ (M' : Mem), SR d ρ M' → Q M') : Q (f_R_first_j12_m a2 x309 M396 x409) := by
  unfold f_R_first_j12_m
  (try dsimp only)
  have t_ := so_R_flag (d := d) (ρ := ρ) M396 (64 : Int32) x409 s_M396 (by first | assumption | exact by decide)
  generalize e_M410 : f_R_flag_m M396 (64 : Int32) x409 = M410 at t_ ⊢
  have s_M410 := t_
  by_cases hc1 : a2 = (4 : Int32)
  · skip
    (try simp only [if_pos hc1])
    exact so_R_first_j13 (d := d) (ρ := ρ) x309 M410 (15 : Int32) s_M410 hQ
  · skip
    (try simp only [if_neg hc1])
    exact so_R_first_j13 (d := d) (ρ := ρ) x309 M410 (0 : Int32) s_M410 hQ
set_option maxRecDepth 100000 in
set_option maxHeartbeats 4000000 in
theorem so_R_first_j11 {d : Int32} {ρ : Nat → Int32} {Q : Mem → Prop} (a2 : Int32) (x309 : Int32) (M368 : Mem) (x395 : Int32) (s_M368 : SR d ρ M368) (hQ : ∀ (M' : Mem), SR d ρ M' → Q M') : Q (f_R_first_j11_m a2 x309 M368 x395) := by
  unfold f_R_first_j11_m
  (try dsimp only)
  have t_ := so_R_flag (d := d) (ρ := ρ) M368 (128 : Int32) x395 s_M368 (by first | assumption | exact by decide)
  generalize e_M396 : f_R_flag_m M368 (128 : Int32) x395 = M396 at t_ ⊢
  have s_M396 := t_
  by_cases hc1 : a2 = (5 : Int32)
  · skip
    (try simp only [if_pos hc1])
    exact so_R_first_j12 (d := d) (ρ := ρ) a2 x309 M396 (1 : Int32) s_M396 hQ
  · skip
    (try simp only [if_neg hc1])
    exact so_R_first_j12 (d := d) (ρ := ρ) a2 x309 M396 (0 : Int32) s_M396 hQ
set_option maxRecDepth 100000 in
set_option maxHeartbeats 4000000 in
theorem so_R_first_j10 {d : Int32} {ρ : Nat → Int32} {Q : Mem → Prop} (a1 : Int32) (a2 : Int32) (x309 : Int32) (M310 : Mem) (x366 : Int32) (s_M310 : SR d ρ M310) (hp0 : 0 ≤ (a1).toInt ∧ (a1).toInt < 8) (hQ : ∀ (M' : Mem), SR d ρ M' → Q M') : ok_R_first_j10 a1 a2 x309 M310 x366 ∧ Q (f_R_first_j10_m a1 a2 x309 M310 x366) := by
  unfold ok_R_first_j10 f_R_first_j10_m
  (try dsimp only)
  refine ps_let ?_
  generalize e_x367 : (x366 &&& (255 : Int32)) = x367
  have q0_x367 : 0 ≤ (x367).toInt ∧ (x367).toInt < 256 := by rw [← e_x367]; exact and_lt (by decide)
  have t_ := so_R_setOperand (d := d) (ρ := ρ) M310 a1 x367 s_M310 (by first | assumption | decide | (constructor <;> ((try simp only [ti_le, ti_lt, ti_eq, Int32.reduceToInt] at *) <;> omega)))
  refine And.intro t_.1 ?_
  replace t_ := t_.2
  generalize e_M368 : f_R_setOperand_m M310 a1 x367 = M368 at t_ ⊢
  have s_M368 := t_
  by_cases hc1 : x367 = 0
  · skip
    (try simp only [if_pos hc1])
    exact so_R_first_j11 (d := d) (ρ := ρ) a2 x309 M368 (1 : Int32) s_M368 hQ
  · skip
    (try simp only [if_neg hc1])
    exact so_R_first_j11 (d := d) (ρ := ρ) a2 x309 M368 (0 : Int32) s_M368 hQ
set_option maxRecDepth 100000 in
set_option maxHeartbeats 4000000 in
theorem sq_R_first {d : Int32} {ρ : Nat → Int32} {Q : Mem → Prop} (M0 : Mem) (a1 : Int32) (a2 : Int32) (s_M0 : SR d ρ M0) (hp0 : 0 ≤ (a1).toInt ∧ (a1).toInt < 8) (hQ : ∀ (M' : Mem), SR d ρ M' → Q M') : ok_R_first M0 a1 a2 ∧ Q (f_R_first_m M0 a1 a2) := by
  unfold ok_R_first f_R_first_m
  (try dsimp only)
  refine ps_let ?_
  generalize e_x1 : (a1 &&& (1 : Int32)) = x1
  have q0_x1 : 0 ≤ (x1).toInt ∧ (x1).toInt < 2 := by rw [← e_x1]; exact and_lt (by decide)
  refine ps_let ?_
  generalize e_x2 : (a1 >>> ((1 : Int32) &&& (31 : Int32))) = x2
  have q0_x2 : 0 ≤ (x2).toInt ∧ (x2).toInt < 4 := by rw [← e_x2]; have h9 := shr1_rng hp0; omega
  by_cases hc1 : (a2 = (0 : Int32))
  · skip
    refine ps_brp hc1 ?_
    (try simp only [if_pos hc1])
    by_cases hc2 : a1 = (1 : Int32)
    · skip
      refine ps_nrp hc2 ?_
      (try simp only [if_pos hc2])
      have t_ := so_R_nextWord (d := d) (ρ := ρ) M0 s_M0 
      refine ps_and t_.1 ?_
      replace t_ := t_.2
      refine ps_let ?_
      refine ps_let ?_
      generalize e_x227 : f_R_nextWord_v M0 = x227 at t_ ⊢
      generalize e_M228 : f_R_nextWord_m M0 = M228 at t_ ⊢
      obtain ⟨s_M228, q0_x227⟩ := t_
      have t_ := so_R_writes (d := d) (ρ := ρ) M228 x227 (M228 0 18) s_M228 
      refine ps_and t_.1 ?_
      replace t_ := t_.2
      refine ps_let ?_
      generalize e_M229 : f_R_writes_m M228 x227 (M228 0 18) = M229 at t_ ⊢
      have s_M229 := t_
      have t_ := so_R_writes (d := d) (ρ := ρ) M229 (x227 + (1 : Int32)) ((M229 0 18) >>> ((8 : Int32) &&& (31 : Int32))) s_M229 
      refine And.intro t_.1 ?_
      replace t_ := t_.2
      generalize e_M230 : f_R_writes_m M229 (x227 + (1 : Int32)) ((M229 0 18) >>> ((8 : Int32) &&& (31 : Int32))) = M230 at t_ ⊢
      have s_M230 := t_
      exact so_R_first_j1 (d := d) (ρ := ρ) M230 s_M230 hQ
    · skip
      refine ps_nrn hc2 ?_
      (try simp only [if_neg hc2])
      by_cases hc3 : a1 = (2 : Int32)
      · skip
        refine ps_nrp hc3 ?_
        (try simp only [if_pos hc3])
        have t_ := so_R_next (d := d) (ρ := ρ) M0 s_M0 
        refine And.intro t_.1 ?_
        replace t_ := t_.2
        generalize e_x224 : f_R_next_v M0 = x224 at t_ ⊢
        generalize e_M225 : f_R_next_m M0 = M225 at t_ ⊢
        obtain ⟨s_M225, q0_x224⟩ := t_
        have s_M226 : SR d ρ (mst M225 0 27 (0 : Int32)) := SR.sf s_M225 (by decide) (by decide)
        generalize e_M226 : mst M225 0 27 (0 : Int32) = M226 at s_M226 ⊢
        exact so_R_first_j1 (d := d) (ρ := ρ) M226 s_M226 hQ
      · skip
        refine ps_nrn hc3 ?_
        (try simp only [if_neg hc3])
        by_cases hc4 : a1 ≤ (2 : Int32)
        · skip
          refine ps_brp hc4 ?_
          refine And.intro trivial ?_
          (try simp only [if_pos hc4])
          exact so_R_first_j1 (d := d) (ρ := ρ) M0 s_M0 hQ
        · skip
          refine ps_brn hc4 ?_
          (try simp only [if_neg hc4])
          have t_ := so_R_next (d := d) (ρ := ρ) M0 s_M0 
          refine ps_and t_.1 ?_
          replace t_ := t_.2
          refine ps_let ?_
          refine ps_let ?_
          generalize e_x215 : f_R_next_v M0 = x215 at t_ ⊢
          generalize e_M216 : f_R_next_m M0 = M216 at t_ ⊢
          obtain ⟨s_M216, q0_x215⟩ := t_
          have t_ := so_R_signed (d := d) (ρ := ρ) M216 x215 s_M216 (by first | assumption | decide | (constructor <;> ((try simp only [ti_le, ti_lt, ti_eq, Int32.reduceToInt] at *) <;> omega)))
          refine ps_let ?_
          generalize e_x217 : f_R_signed_v M216 x215 = x217 at t_ ⊢
          have q0_x217 := t_
          by_cases hc5 : a1 = (3 : Int32)
          · skip
            refine ps_brp hc5 ?_
            refine And.intro trivial ?_
            (try simp only [if_pos hc5])
            exact so_R_first_j3 (d := d) (ρ := ρ) M216 x217 s_M216 hQ
          · skip
            refine ps_brn hc5 ?_
            (try simp only [if_neg hc5])
            have t_ := so_R_holds (d := d) (ρ := ρ) M216 (a1 - (4 : Int32)) s_M216 
            refine And.intro t_.1 ?_
            replace t_ := t_.2
            generalize e_x223 : f_R_holds_v M216 (a1 - (4 : Int32)) = x223 at t_ ⊢
            by_cases hc6 : x223 = 0
            · skip
              (try simp only [if_pos hc6])
              exact so_R_first_j2 (d := d) (ρ := ρ) M216 x217 (0 : Int32) s_M216 hQ
            · skip
              (try simp only [if_neg hc6])
              exact so_R_first_j3 (d := d) (ρ := ρ) M216 x217 s_M216 hQ
  · skip
    refine ps_brn hc1 ?_
    (try simp only [if_neg hc1])
    by_cases hc2 : (a2 = (1 : Int32))
    · skip
      refine ps_brp hc2 ?_
      (try simp only [if_pos hc2])
      by_cases hc3 : x1 = 0
      · skip
        refine ps_nrp hc3 ?_
        (try simp only [if_pos hc3])
        have t_ := so_R_nextWord (d := d) (ρ := ρ) M0 s_M0 
        refine ps_and t_.1 ?_
        replace t_ := t_.2
        refine ps_let ?_
        refine ps_let ?_
        generalize e_x254 : f_R_nextWord_v M0 = x254 at t_ ⊢
        generalize e_M255 : f_R_nextWord_m M0 = M255 at t_ ⊢
        obtain ⟨s_M255, q0_x254⟩ := t_
        have t_ := so_R_setPair (d := d) (ρ := ρ) M255 x2 x254 s_M255 (by first | assumption | decide | (constructor <;> ((try simp only [ti_le, ti_lt, ti_eq, Int32.reduceToInt] at *) <;> omega)))
        refine And.intro t_.1 ?_
        replace t_ := t_.2
        generalize e_M256 : f_R_setPair_m M255 x2 x254 = M256 at t_ ⊢
        have s_M256 := t_
        exact so_R_first_j1 (d := d) (ρ := ρ) M256 s_M256 hQ
      · skip
        refine ps_nrn hc3 ?_
        (try simp only [if_neg hc3])
        have t_ := so_R_pair (d := d) (ρ := ρ) M0 (2 : Int32) s_M0 (by first | assumption | exact by decide)
        refine ps_and t_.1 ?_
        replace t_ := t_.2
        refine ps_let ?_
        generalize e_x231 : f_R_pair_v M0 (2 : Int32) = x231 at t_ ⊢
        have q0_x231 := t_
        have t_ := so_R_pair (d := d) (ρ := ρ) M0 x2 s_M0 (by first | assumption | decide | (constructor <;> ((try simp only [ti_le, ti_lt, ti_eq, Int32.reduceToInt] at *) <;> omega)))
        refine ps_and t_.1 ?_
        replace t_ := t_.2
        refine ps_let ?_
        generalize e_x232 : f_R_pair_v M0 x2 = x232 at t_ ⊢
        have q0_x232 := t_
        have t_ := so_R_flag (d := d) (ρ := ρ) M0 (64 : Int32) (0 : Int32) s_M0 (by first | assumption | exact by decide)
        refine ps_let ?_
        generalize e_M233 : f_R_flag_m M0 (64 : Int32) (0 : Int32) = M233 at t_ ⊢
        have s_M233 := t_
        by_cases hc4 : ((x231 &&& (4095 : Int32)) + (x232 &&& (4095 : Int32))) ≤ (4095 : Int32)
        · skip
          refine ps_brp hc4 ?_
          (try simp only [if_pos hc4])
          exact so_R_first_j4 (d := d) (ρ := ρ) x231 x232 M233 (0 : Int32) s_M233 hQ
        · skip
          refine ps_brn hc4 ?_
          (try simp only [if_neg hc4])
          exact so_R_first_j4 (d := d) (ρ := ρ) x231 x232 M233 (1 : Int32) s_M233 hQ
    · skip
      refine ps_brn hc2 ?_
      (try simp only [if_neg hc2])
      by_cases hc3 : (a2 = (2 : Int32))
      · skip
        refine ps_brp hc3 ?_
        (try simp only [if_pos hc3])
        by_cases hc4 : (2 : Int32) ≤ x2
        · skip
          refine ps_brp hc4 ?_
          (try simp only [if_pos hc4])
          have t_ := so_R_pair (d := d) (ρ := ρ) M0 (2 : Int32) s_M0 (by first | assumption | exact by decide)
          refine ps_and t_.1 ?_
          replace t_ := t_.2
          refine ps_let ?_
          generalize e_x297 : f_R_pair_v M0 (2 : Int32) = x297 at t_ ⊢
          have q0_x297 := t_
          exact so_R_first_j6 (d := d) (ρ := ρ) M0 x1 x2 x297 s_M0 hQ
        · skip
          refine ps_brn hc4 ?_
          (try simp only [if_neg hc4])
          have t_ := so_R_pair (d := d) (ρ := ρ) M0 x2 s_M0 (by first | assumption | decide | (constructor <;> ((try simp only [ti_le, ti_lt, ti_eq, Int32.reduceToInt] at *) <;> omega)))
          refine ps_and t_.1 ?_
          replace t_ := t_.2
          refine ps_let ?_
          generalize e_x298 : f_R_pair_v M0 x2 = x298 at t_ ⊢
          have q0_x298 := t_
          exact so_R_first_j6 (d := d) (ρ := ρ) M0 x1 x2 x298 s_M0 hQ
      · skip
        refine ps_brn hc3 ?_
        (try simp only [if_neg hc3])
        by_cases hc4 : (a2 = (3 : Int32))
        · skip
          refine ps_brp hc4 ?_
          (try simp only [if_pos hc4])
          by_cases hc5 : x1 = 0
          · skip
            refine ps_nrp hc5 ?_
            (try simp only [if_pos hc5])
            have t_ := so_R_pair (d := d) (ρ := ρ) M0 x2 s_M0 (by first | assumption | decide | (constructor <;> ((try simp only [ti_le, ti_lt, ti_eq, Int32.reduceToInt] at *) <;> omega)))
            refine ps_and t_.1 ?_
            replace t_ := t_.2
            refine ps_let ?_
            generalize e_x308 : f_R_pair_v M0 x2 = x308 at t_ ⊢
            have q0_x308 := t_
            exact so_R_first_j9 (d := d) (ρ := ρ) M0 x2 (x308 + (1 : Int32)) s_M0 (by first | assumption | decide | (constructor <;> ((try simp only [ti_le, ti_lt, ti_eq, Int32.reduceToInt] at *) <;> omega))) hQ
          · skip
            refine ps_nrn hc5 ?_
            (try simp only [if_neg hc5])
            have t_ := so_R_pair (d := d) (ρ := ρ) M0 x2 s_M0 (by first | assumption | decide | (constructor <;> ((try simp only [ti_le, ti_lt, ti_eq, Int32.reduceToInt] at *) <;> omega)))
            refine ps_and t_.1 ?_
            replace t_ := t_.2
            refine ps_let ?_
            generalize e_x307 : f_R_pair_v M0 x2 = x307 at t_ ⊢
            have q0_x307 := t_
            exact so_R_first_j9 (d := d) (ρ := ρ) M0 x2 (x307 - (1 : Int32)) s_M0 (by first | assumption | decide | (constructor <;> ((try simp only [ti_le, ti_lt, ti_eq, Int32.reduceToInt] at *) <;> omega))) hQ
        · skip
          refine ps_brn hc4 ?_
          (try simp only [if_neg hc4])
          by_cases hc5 : (a2 = (4 : Int32) ∨ a2 = (5 : Int32))
          · skip
            refine ps_brp hc5 ?_
            (try simp only [if_pos hc5])
            have t_ := so_R_operand (d := d) (ρ := ρ) M0 a1 s_M0 (by first | assumption | decide | (constructor <;> ((try simp only [ti_le, ti_lt, ti_eq, Int32.reduceToInt] at *) <;> omega)))
            refine ps_and t_.1 ?_
            replace t_ := t_.2
            refine ps_let ?_
            refine ps_let ?_
            generalize e_x309 : f_R_operand_v M0 a1 = x309 at t_ ⊢
            generalize e_M310 : f_R_operand_m M0 a1 = M310 at t_ ⊢
            obtain ⟨s_M310, q0_x309⟩ := t_
            by_cases hc6 : a2 = (4 : Int32)
            · skip
              refine ps_nrp hc6 ?_
              (try simp only [if_pos hc6])
              exact so_R_first_j10 (d := d) (ρ := ρ) a1 a2 x309 M310 (x309 + (1 : Int32)) s_M310 (by first | assumption | decide | (constructor <;> ((try simp only [ti_le, ti_lt, ti_eq, Int32.reduceToInt] at *) <;> omega))) hQ
            · skip
              refine ps_nrn hc6 ?_
              (try simp only [if_neg hc6])
              exact so_R_first_j10 (d := d) (ρ := ρ) a1 a2 x309 M310 (x309 - (1 : Int32)) s_M310 (by first | assumption | decide | (constructor <;> ((try simp only [ti_le, ti_lt, ti_eq, Int32.reduceToInt] at *) <;> omega))) hQ
          · skip
            refine ps_brn hc5 ?_
            (try simp only [if_neg hc5])
            by_cases hc6 : (a2 = (6 : Int32))
            · skip
              refine ps_brp hc6 ?_
              (try simp only [if_pos hc6])
              have t_ := so_R_next (d := d) (ρ := ρ) M0 s_M0 
              refine ps_and t_.1 ?_
              replace t_ := t_.2
              refine ps_let ?_
              refine ps_let ?_
              generalize e_x421 : f_R_next_v M0 = x421 at t_ ⊢
              generalize e_M422 : f_R_next_m M0 = M422 at t_ ⊢
              obtain ⟨s_M422, q0_x421⟩ := t_
              have t_ := so_R_setOperand (d := d) (ρ := ρ) M422 a1 x421 s_M422 (by first | assumption | decide | (constructor <;> ((try simp only [ti_le, ti_lt, ti_eq, Int32.reduceToInt] at *) <;> omega)))
              refine And.intro t_.1 ?_
              replace t_ := t_.2
              generalize e_M423 : f_R_setOperand_m M422 a1 x421 = M423 at t_ ⊢
              have s_M423 := t_
              exact so_R_first_j1 (d := d) (ρ := ρ) M423 s_M423 hQ
            · skip
              refine ps_brn hc6 ?_
              (try simp only [if_neg hc6])
              have t_ := so_R_accumulator (d := d) (ρ := ρ) M0 a1 s_M0 
              refine And.intro t_.1 ?_
              replace t_ := t_.2
              generalize e_M424 : f_R_accumulator_m M0 a1 = M424 at t_ ⊢
              have s_M424 := t_
              exact so_R_first_j1 (d := d) (ρ := ρ) M424 s_M424 hQ
theorem so_R_first {d : Int32} {ρ : Nat → Int32} (M0 : Mem) (a1 : Int32) (a2 : Int32) (s_M0 : SR d ρ M0) (hp0 : 0 ≤ (a1).toInt ∧ (a1).toInt < 8) : ok_R_first M0 a1 a2 ∧ SR d ρ (f_R_first_m M0 a1 a2) := sq_R_first (d := d) (ρ := ρ) (Q := fun M' => SR d ρ M') M0 a1 a2 s_M0 hp0 (fun _ h0 => h0)
