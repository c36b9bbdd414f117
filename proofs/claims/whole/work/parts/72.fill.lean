/-! A new beginning on both sides. -/
theorem fl_A8 : ∀ (n : Nat) (x : Int32) (M : Mem), 0 ≤ x.toInt → x.toInt ≤ 256 → 256 < x.toInt + n → ∀ c j : Nat, f_A_fill8_l1_m 0 n x M c j = if c = 8 ∧ x.toInt ≤ j ∧ j < 256 then 0 else M c j := by
  intro n
  induction n with
  | zero => intro x M h1 h2 h3; exact absurd h3 (by omega)
  | succ n ih =>
    intro x M h1 h2 h3 c j
    have hs : (256 : Int32).toInt = 256 := by decide
    rw [f_A_fill8_l1_m_s]; dsimp only
    by_cases hc : (256 : Int32) ≤ x
    · rw [if_pos hc, if_neg]
      rw [ti_le] at hc; omega
    · rw [if_neg hc]
      rw [ti_le] at hc
      have h7 := a1_ti (a := x) (by omega)
      have h8 := ti_clamp h1
      rw [ih _ _ (by omega) (by omega) (by omega)]
      by_cases e : c = 8
      · subst e
        by_cases e2 : j = x.toNatClampNeg
        · rw [if_neg (by omega), if_pos (by omega), e2, mst_eq]
        · rw [mst_ne e2]
          by_cases e3 : x.toInt ≤ j ∧ j < 256
          · rw [if_pos ⟨rfl, by omega, e3.2⟩, if_pos ⟨rfl, e3⟩]
          · rw [if_neg (fun t => e3 ⟨by omega, t.2.2⟩), if_neg (fun t => e3 t.2)]
      · rw [if_neg (fun t => e t.1), if_neg (fun t => e t.1), mst_no e]
theorem fm_A8 (M : Mem) (c j : Nat) : f_A_fill8_m M 0 c j = if c = 8 ∧ j < 256 then 0 else M c j := by
  unfold f_A_fill8_m
  rw [fl_A8 _ _ _ (by decide) (by decide) (by decide), show (0 : Int32).toInt = 0 from by decide]
  by_cases e : c = 8 ∧ j < 256
  · rw [if_pos e, if_pos ⟨e.1, by omega, e.2⟩]
  · rw [if_neg e, if_neg (fun t => e ⟨t.1, t.2.2⟩)]
theorem fl_A9 : ∀ (n : Nat) (x : Int32) (M : Mem), 0 ≤ x.toInt → x.toInt ≤ 8192 → 8192 < x.toInt + n → ∀ c j : Nat, f_A_fill9_l1_m 0 n x M c j = if c = 9 ∧ x.toInt ≤ j ∧ j < 8192 then 0 else M c j := by
  intro n
  induction n with
  | zero => intro x M h1 h2 h3; exact absurd h3 (by omega)
  | succ n ih =>
    intro x M h1 h2 h3 c j
    have hs : (8192 : Int32).toInt = 8192 := by decide
    rw [f_A_fill9_l1_m_s]; dsimp only
    by_cases hc : (8192 : Int32) ≤ x
    · rw [if_pos hc, if_neg]
      rw [ti_le] at hc; omega
    · rw [if_neg hc]
      rw [ti_le] at hc
      have h7 := a1_ti (a := x) (by omega)
      have h8 := ti_clamp h1
      rw [ih _ _ (by omega) (by omega) (by omega)]
      by_cases e : c = 9
      · subst e
        by_cases e2 : j = x.toNatClampNeg
        · rw [if_neg (by omega), if_pos (by omega), e2, mst_eq]
        · rw [mst_ne e2]
          by_cases e3 : x.toInt ≤ j ∧ j < 8192
          · rw [if_pos ⟨rfl, by omega, e3.2⟩, if_pos ⟨rfl, e3⟩]
          · rw [if_neg (fun t => e3 ⟨by omega, t.2.2⟩), if_neg (fun t => e3 t.2)]
      · rw [if_neg (fun t => e t.1), if_neg (fun t => e t.1), mst_no e]
theorem fm_A9 (M : Mem) (c j : Nat) : f_A_fill9_m M 0 c j = if c = 9 ∧ j < 8192 then 0 else M c j := by
  unfold f_A_fill9_m
  rw [fl_A9 _ _ _ (by decide) (by decide) (by decide), show (0 : Int32).toInt = 0 from by decide]
  by_cases e : c = 9 ∧ j < 8192
  · rw [if_pos e, if_pos ⟨e.1, by omega, e.2⟩]
  · rw [if_neg e, if_neg (fun t => e ⟨t.1, t.2.2⟩)]
theorem fl_A10 : ∀ (n : Nat) (x : Int32) (M : Mem), 0 ≤ x.toInt → x.toInt ≤ 160 → 160 < x.toInt + n → ∀ c j : Nat, f_A_fill10_l1_m 0 n x M c j = if c = 10 ∧ x.toInt ≤ j ∧ j < 160 then 0 else M c j := by
  intro n
  induction n with
  | zero => intro x M h1 h2 h3; exact absurd h3 (by omega)
  | succ n ih =>
    intro x M h1 h2 h3 c j
    have hs : (160 : Int32).toInt = 160 := by decide
    rw [f_A_fill10_l1_m_s]; dsimp only
    by_cases hc : (160 : Int32) ≤ x
    · rw [if_pos hc, if_neg]
      rw [ti_le] at hc; omega
    · rw [if_neg hc]
      rw [ti_le] at hc
      have h7 := a1_ti (a := x) (by omega)
      have h8 := ti_clamp h1
      rw [ih _ _ (by omega) (by omega) (by omega)]
      by_cases e : c = 10
      · subst e
        by_cases e2 : j = x.toNatClampNeg
        · rw [if_neg (by omega), if_pos (by omega), e2, mst_eq]
        · rw [mst_ne e2]
          by_cases e3 : x.toInt ≤ j ∧ j < 160
          · rw [if_pos ⟨rfl, by omega, e3.2⟩, if_pos ⟨rfl, e3⟩]
          · rw [if_neg (fun t => e3 ⟨by omega, t.2.2⟩), if_neg (fun t => e3 t.2)]
      · rw [if_neg (fun t => e t.1), if_neg (fun t => e t.1), mst_no e]
theorem fm_A10 (M : Mem) (c j : Nat) : f_A_fill10_m M 0 c j = if c = 10 ∧ j < 160 then 0 else M c j := by
  unfold f_A_fill10_m
  rw [fl_A10 _ _ _ (by decide) (by decide) (by decide), show (0 : Int32).toInt = 0 from by decide]
  by_cases e : c = 10 ∧ j < 160
  · rw [if_pos e, if_pos ⟨e.1, by omega, e.2⟩]
  · rw [if_neg e, if_neg (fun t => e ⟨t.1, t.2.2⟩)]
theorem fl_A11 : ∀ (n : Nat) (x : Int32) (M : Mem), 0 ≤ x.toInt → x.toInt ≤ 1024 → 1024 < x.toInt + n → ∀ c j : Nat, f_A_fill11_l1_m 0 n x M c j = if c = 11 ∧ x.toInt ≤ j ∧ j < 1024 then 0 else M c j := by
  intro n
  induction n with
  | zero => intro x M h1 h2 h3; exact absurd h3 (by omega)
  | succ n ih =>
    intro x M h1 h2 h3 c j
    have hs : (1024 : Int32).toInt = 1024 := by decide
    rw [f_A_fill11_l1_m_s]; dsimp only
    by_cases hc : (1024 : Int32) ≤ x
    · rw [if_pos hc, if_neg]
      rw [ti_le] at hc; omega
    · rw [if_neg hc]
      rw [ti_le] at hc
      have h7 := a1_ti (a := x) (by omega)
      have h8 := ti_clamp h1
      rw [ih _ _ (by omega) (by omega) (by omega)]
      by_cases e : c = 11
      · subst e
        by_cases e2 : j = x.toNatClampNeg
        · rw [if_neg (by omega), if_pos (by omega), e2, mst_eq]
        · rw [mst_ne e2]
          by_cases e3 : x.toInt ≤ j ∧ j < 1024
          · rw [if_pos ⟨rfl, by omega, e3.2⟩, if_pos ⟨rfl, e3⟩]
          · rw [if_neg (fun t => e3 ⟨by omega, t.2.2⟩), if_neg (fun t => e3 t.2)]
      · rw [if_neg (fun t => e t.1), if_neg (fun t => e t.1), mst_no e]
theorem fm_A11 (M : Mem) (c j : Nat) : f_A_fill11_m M 0 c j = if c = 11 ∧ j < 1024 then 0 else M c j := by
  unfold f_A_fill11_m
  rw [fl_A11 _ _ _ (by decide) (by decide) (by decide), show (0 : Int32).toInt = 0 from by decide]
  by_cases e : c = 11 ∧ j < 1024
  · rw [if_pos e, if_pos ⟨e.1, by omega, e.2⟩]
  · rw [if_neg e, if_neg (fun t => e ⟨t.1, t.2.2⟩)]
theorem fl_A12 : ∀ (n : Nat) (x : Int32) (M : Mem), 0 ≤ x.toInt → x.toInt ≤ 128 → 128 < x.toInt + n → ∀ c j : Nat, f_A_fill12_l1_m 0 n x M c j = if c = 12 ∧ x.toInt ≤ j ∧ j < 128 then 0 else M c j := by
  intro n
  induction n with
  | zero => intro x M h1 h2 h3; exact absurd h3 (by omega)
  | succ n ih =>
    intro x M h1 h2 h3 c j
    have hs : (128 : Int32).toInt = 128 := by decide
    rw [f_A_fill12_l1_m_s]; dsimp only
    by_cases hc : (128 : Int32) ≤ x
    · rw [if_pos hc, if_neg]
      rw [ti_le] at hc; omega
    · rw [if_neg hc]
      rw [ti_le] at hc
      have h7 := a1_ti (a := x) (by omega)
      have h8 := ti_clamp h1
      rw [ih _ _ (by omega) (by omega) (by omega)]
      by_cases e : c = 12
      · subst e
        by_cases e2 : j = x.toNatClampNeg
        · rw [if_neg (by omega), if_pos (by omega), e2, mst_eq]
        · rw [mst_ne e2]
          by_cases e3 : x.toInt ≤ j ∧ j < 128
          · rw [if_pos ⟨rfl, by omega, e3.2⟩, if_pos ⟨rfl, e3⟩]
          · rw [if_neg (fun t => e3 ⟨by omega, t.2.2⟩), if_neg (fun t => e3 t.2)]
      · rw [if_neg (fun t => e t.1), if_neg (fun t => e t.1), mst_no e]
theorem fm_A12 (M : Mem) (c j : Nat) : f_A_fill12_m M 0 c j = if c = 12 ∧ j < 128 then 0 else M c j := by
  unfold f_A_fill12_m
  rw [fl_A12 _ _ _ (by decide) (by decide) (by decide), show (0 : Int32).toInt = 0 from by decide]
  by_cases e : c = 12 ∧ j < 128
  · rw [if_pos e, if_pos ⟨e.1, by omega, e.2⟩]
  · rw [if_neg e, if_neg (fun t => e ⟨t.1, t.2.2⟩)]
theorem fl_A13 : ∀ (n : Nat) (x : Int32) (M : Mem), 0 ≤ x.toInt → x.toInt ≤ 160 → 160 < x.toInt + n → ∀ c j : Nat, f_A_fill13_l1_m 0 n x M c j = if c = 13 ∧ x.toInt ≤ j ∧ j < 160 then 0 else M c j := by
  intro n
  induction n with
  | zero => intro x M h1 h2 h3; exact absurd h3 (by omega)
  | succ n ih =>
    intro x M h1 h2 h3 c j
    have hs : (160 : Int32).toInt = 160 := by decide
    rw [f_A_fill13_l1_m_s]; dsimp only
    by_cases hc : (160 : Int32) ≤ x
    · rw [if_pos hc, if_neg]
      rw [ti_le] at hc; omega
    · rw [if_neg hc]
      rw [ti_le] at hc
      have h7 := a1_ti (a := x) (by omega)
      have h8 := ti_clamp h1
      rw [ih _ _ (by omega) (by omega) (by omega)]
      by_cases e : c = 13
      · subst e
        by_cases e2 : j = x.toNatClampNeg
        · rw [if_neg (by omega), if_pos (by omega), e2, mst_eq]
        · rw [mst_ne e2]
          by_cases e3 : x.toInt ≤ j ∧ j < 160
          · rw [if_pos ⟨rfl, by omega, e3.2⟩, if_pos ⟨rfl, e3⟩]
          · rw [if_neg (fun t => e3 ⟨by omega, t.2.2⟩), if_neg (fun t => e3 t.2)]
      · rw [if_neg (fun t => e t.1), if_neg (fun t => e t.1), mst_no e]
theorem fm_A13 (M : Mem) (c j : Nat) : f_A_fill13_m M 0 c j = if c = 13 ∧ j < 160 then 0 else M c j := by
  unfold f_A_fill13_m
  rw [fl_A13 _ _ _ (by decide) (by decide) (by decide), show (0 : Int32).toInt = 0 from by decide]
  by_cases e : c = 13 ∧ j < 160
  · rw [if_pos e, if_pos ⟨e.1, by omega, e.2⟩]
  · rw [if_neg e, if_neg (fun t => e ⟨t.1, t.2.2⟩)]
theorem fl_R3 : ∀ (n : Nat) (x : Int32) (M : Mem), 0 ≤ x.toInt → x.toInt ≤ 8192 → 8192 < x.toInt + n → ∀ c j : Nat, f_R_zeros3_l1_m n x M c j = if c = 3 ∧ x.toInt ≤ j ∧ j < 8192 then 0 else M c j := by
  intro n
  induction n with
  | zero => intro x M h1 h2 h3; exact absurd h3 (by omega)
  | succ n ih =>
    intro x M h1 h2 h3 c j
    have hs : (8192 : Int32).toInt = 8192 := by decide
    rw [f_R_zeros3_l1_m_s]; dsimp only
    by_cases hc : (8192 : Int32) ≤ x
    · rw [if_pos hc, if_neg]
      rw [ti_le] at hc; omega
    · rw [if_neg hc]
      rw [ti_le] at hc
      have h7 := a1_ti (a := x) (by omega)
      have h8 := ti_clamp h1
      rw [ih _ _ (by omega) (by omega) (by omega)]
      by_cases e : c = 3
      · subst e
        by_cases e2 : j = x.toNatClampNeg
        · rw [if_neg (by omega), if_pos (by omega), e2, mst_eq]
        · rw [mst_ne e2]
          by_cases e3 : x.toInt ≤ j ∧ j < 8192
          · rw [if_pos ⟨rfl, by omega, e3.2⟩, if_pos ⟨rfl, e3⟩]
          · rw [if_neg (fun t => e3 ⟨by omega, t.2.2⟩), if_neg (fun t => e3 t.2)]
      · rw [if_neg (fun t => e t.1), if_neg (fun t => e t.1), mst_no e]
theorem fm_R3 (M : Mem) (c j : Nat) : f_R_zeros3_m M c j = if c = 3 ∧ j < 8192 then 0 else M c j := by
  unfold f_R_zeros3_m
  rw [fl_R3 _ _ _ (by decide) (by decide) (by decide), show (0 : Int32).toInt = 0 from by decide]
  by_cases e : c = 3 ∧ j < 8192
  · rw [if_pos e, if_pos ⟨e.1, by omega, e.2⟩]
  · rw [if_neg e, if_neg (fun t => e ⟨t.1, t.2.2⟩)]
theorem fl_R4 : ∀ (n : Nat) (x : Int32) (M : Mem), 0 ≤ x.toInt → x.toInt ≤ 1024 → 1024 < x.toInt + n → ∀ c j : Nat, f_R_zeros4_l1_m n x M c j = if c = 4 ∧ x.toInt ≤ j ∧ j < 1024 then 0 else M c j := by
  intro n
  induction n with
  | zero => intro x M h1 h2 h3; exact absurd h3 (by omega)
  | succ n ih =>
    intro x M h1 h2 h3 c j
    have hs : (1024 : Int32).toInt = 1024 := by decide
    rw [f_R_zeros4_l1_m_s]; dsimp only
    by_cases hc : (1024 : Int32) ≤ x
    · rw [if_pos hc, if_neg]
      rw [ti_le] at hc; omega
    · rw [if_neg hc]
      rw [ti_le] at hc
      have h7 := a1_ti (a := x) (by omega)
      have h8 := ti_clamp h1
      rw [ih _ _ (by omega) (by omega) (by omega)]
      by_cases e : c = 4
      · subst e
        by_cases e2 : j = x.toNatClampNeg
        · rw [if_neg (by omega), if_pos (by omega), e2, mst_eq]
        · rw [mst_ne e2]
          by_cases e3 : x.toInt ≤ j ∧ j < 1024
          · rw [if_pos ⟨rfl, by omega, e3.2⟩, if_pos ⟨rfl, e3⟩]
          · rw [if_neg (fun t => e3 ⟨by omega, t.2.2⟩), if_neg (fun t => e3 t.2)]
      · rw [if_neg (fun t => e t.1), if_neg (fun t => e t.1), mst_no e]
theorem fm_R4 (M : Mem) (c j : Nat) : f_R_zeros4_m M c j = if c = 4 ∧ j < 1024 then 0 else M c j := by
  unfold f_R_zeros4_m
  rw [fl_R4 _ _ _ (by decide) (by decide) (by decide), show (0 : Int32).toInt = 0 from by decide]
  by_cases e : c = 4 ∧ j < 1024
  · rw [if_pos e, if_pos ⟨e.1, by omega, e.2⟩]
  · rw [if_neg e, if_neg (fun t => e ⟨t.1, t.2.2⟩)]
theorem fl_R5 : ∀ (n : Nat) (x : Int32) (M : Mem), 0 ≤ x.toInt → x.toInt ≤ 160 → 160 < x.toInt + n → ∀ c j : Nat, f_R_zeros5_l1_m n x M c j = if c = 5 ∧ x.toInt ≤ j ∧ j < 160 then 0 else M c j := by
  intro n
  induction n with
  | zero => intro x M h1 h2 h3; exact absurd h3 (by omega)
  | succ n ih =>
    intro x M h1 h2 h3 c j
    have hs : (160 : Int32).toInt = 160 := by decide
    rw [f_R_zeros5_l1_m_s]; dsimp only
    by_cases hc : (160 : Int32) ≤ x
    · rw [if_pos hc, if_neg]
      rw [ti_le] at hc; omega
    · rw [if_neg hc]
      rw [ti_le] at hc
      have h7 := a1_ti (a := x) (by omega)
      have h8 := ti_clamp h1
      rw [ih _ _ (by omega) (by omega) (by omega)]
      by_cases e : c = 5
      · subst e
        by_cases e2 : j = x.toNatClampNeg
        · rw [if_neg (by omega), if_pos (by omega), e2, mst_eq]
        · rw [mst_ne e2]
          by_cases e3 : x.toInt ≤ j ∧ j < 160
          · rw [if_pos ⟨rfl, by omega, e3.2⟩, if_pos ⟨rfl, e3⟩]
          · rw [if_neg (fun t => e3 ⟨by omega, t.2.2⟩), if_neg (fun t => e3 t.2)]
      · rw [if_neg (fun t => e t.1), if_neg (fun t => e t.1), mst_no e]
theorem fm_R5 (M : Mem) (c j : Nat) : f_R_zeros5_m M c j = if c = 5 ∧ j < 160 then 0 else M c j := by
  unfold f_R_zeros5_m
  rw [fl_R5 _ _ _ (by decide) (by decide) (by decide), show (0 : Int32).toInt = 0 from by decide]
  by_cases e : c = 5 ∧ j < 160
  · rw [if_pos e, if_pos ⟨e.1, by omega, e.2⟩]
  · rw [if_neg e, if_neg (fun t => e ⟨t.1, t.2.2⟩)]
theorem fl_R6 : ∀ (n : Nat) (x : Int32) (M : Mem), 0 ≤ x.toInt → x.toInt ≤ 127 → 127 < x.toInt + n → ∀ c j : Nat, f_R_zeros6_l1_m n x M c j = if c = 6 ∧ x.toInt ≤ j ∧ j < 127 then 0 else M c j := by
  intro n
  induction n with
  | zero => intro x M h1 h2 h3; exact absurd h3 (by omega)
  | succ n ih =>
    intro x M h1 h2 h3 c j
    have hs : (127 : Int32).toInt = 127 := by decide
    rw [f_R_zeros6_l1_m_s]; dsimp only
    by_cases hc : (127 : Int32) ≤ x
    · rw [if_pos hc, if_neg]
      rw [ti_le] at hc; omega
    · rw [if_neg hc]
      rw [ti_le] at hc
      have h7 := a1_ti (a := x) (by omega)
      have h8 := ti_clamp h1
      rw [ih _ _ (by omega) (by omega) (by omega)]
      by_cases e : c = 6
      · subst e
        by_cases e2 : j = x.toNatClampNeg
        · rw [if_neg (by omega), if_pos (by omega), e2, mst_eq]
        · rw [mst_ne e2]
          by_cases e3 : x.toInt ≤ j ∧ j < 127
          · rw [if_pos ⟨rfl, by omega, e3.2⟩, if_pos ⟨rfl, e3⟩]
          · rw [if_neg (fun t => e3 ⟨by omega, t.2.2⟩), if_neg (fun t => e3 t.2)]
      · rw [if_neg (fun t => e t.1), if_neg (fun t => e t.1), mst_no e]
theorem fm_R6 (M : Mem) (c j : Nat) : f_R_zeros6_m M c j = if c = 6 ∧ j < 127 then 0 else M c j := by
  unfold f_R_zeros6_m
  rw [fl_R6 _ _ _ (by decide) (by decide) (by decide), show (0 : Int32).toInt = 0 from by decide]
  by_cases e : c = 6 ∧ j < 127
  · rw [if_pos e, if_pos ⟨e.1, by omega, e.2⟩]
  · rw [if_neg e, if_neg (fun t => e ⟨t.1, t.2.2⟩)]
theorem fl_R7 : ∀ (n : Nat) (x : Int32) (M : Mem), 0 ≤ x.toInt → x.toInt ≤ 160 → 160 < x.toInt + n → ∀ c j : Nat, f_R_zeros7_l1_m n x M c j = if c = 7 ∧ x.toInt ≤ j ∧ j < 160 then 0 else M c j := by
  intro n
  induction n with
  | zero => intro x M h1 h2 h3; exact absurd h3 (by omega)
  | succ n ih =>
    intro x M h1 h2 h3 c j
    have hs : (160 : Int32).toInt = 160 := by decide
    rw [f_R_zeros7_l1_m_s]; dsimp only
    by_cases hc : (160 : Int32) ≤ x
    · rw [if_pos hc, if_neg]
      rw [ti_le] at hc; omega
    · rw [if_neg hc]
      rw [ti_le] at hc
      have h7 := a1_ti (a := x) (by omega)
      have h8 := ti_clamp h1
      rw [ih _ _ (by omega) (by omega) (by omega)]
      by_cases e : c = 7
      · subst e
        by_cases e2 : j = x.toNatClampNeg
        · rw [if_neg (by omega), if_pos (by omega), e2, mst_eq]
        · rw [mst_ne e2]
          by_cases e3 : x.toInt ≤ j ∧ j < 160
          · rw [if_pos ⟨rfl, by omega, e3.2⟩, if_pos ⟨rfl, e3⟩]
          · rw [if_neg (fun t => e3 ⟨by omega, t.2.2⟩), if_neg (fun t => e3 t.2)]
      · rw [if_neg (fun t => e t.1), if_neg (fun t => e t.1), mst_no e]
theorem fm_R7 (M : Mem) (c j : Nat) : f_R_zeros7_m M c j = if c = 7 ∧ j < 160 then 0 else M c j := by
  unfold f_R_zeros7_m
  rw [fl_R7 _ _ _ (by decide) (by decide) (by decide), show (0 : Int32).toInt = 0 from by decide]
  by_cases e : c = 7 ∧ j < 160
  · rw [if_pos e, if_pos ⟨e.1, by omega, e.2⟩]
  · rw [if_neg e, if_neg (fun t => e ⟨t.1, t.2.2⟩)]
