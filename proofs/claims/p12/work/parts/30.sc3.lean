set_option maxRecDepth 100000 in
set_option maxHeartbeats 4000000 in
theorem so_T_write_l1 {d : Int32} {ρ : Nat → Int32} {Q : Int32 → Mem → Prop} (a1 : Int32) (a2 : Int32) (a3 : Int64) (hq0 : (a2).toInt ≤ 8) (hQ : ∀ (x : Int32) (M' : Mem), SC d ρ M' → Q x M') : ∀ (n : Nat) (x16 : Int32) (M17 : Mem), SC d ρ M17 → 0 ≤ (x16).toInt → (x16).toInt ≤ 8 → 8 < (x16).toInt + n → ok_T_write_l1 a1 a2 a3 n x16 M17 ∧ Q (f_T_write_l1_v a1 a2 a3 n x16 M17) (f_T_write_l1_m a1 a2 a3 n x16 M17) := by
  intro n
  induction n with
  | zero =>
    intro x16 M17 s_M17 hL0 hL1 hL2
    exact False.elim (by (try simp only [ti_le, ti_lt, Int32.reduceToInt] at *) <;> omega)
  | succ n ih =>
    intro x16 M17 s_M17 hL0 hL1 hL2
    have hK1 := ih
    show ((((a2 ≤ x16) → True) ∧ ((¬ a2 ≤ x16) → ∀ x18 : Int32, x18 = f_T_octetOf_v M17 a3 x16 → ok_Y_store M17 (a1 + x16) x18 ∧ (∀ M19 : Mem, M19 = f_Y_store_m M17 (a1 + x16) x18 → ∀ x20 : Int32, x20 = x16 + (1 : Int32) → (ok_T_write_l1 a1 a2 a3 n) x20 M19)))) ∧ Q ((if a2 ≤ x16 then a2 else let x18 : Int32 := f_T_octetOf_v M17 a3 x16; let M19 : Mem := f_Y_store_m M17 (a1 + x16) x18; let x20 : Int32 := x16 + (1 : Int32); ((f_T_write_l1_v a1 a2 a3 n) x20 M19))) ((if a2 ≤ x16 then M17 else let x18 : Int32 := f_T_octetOf_v M17 a3 x16; let M19 : Mem := f_Y_store_m M17 (a1 + x16) x18; let x20 : Int32 := x16 + (1 : Int32); ((f_T_write_l1_m a1 a2 a3 n) x20 M19)))
    (try dsimp only)
    by_cases hc2 : a2 ≤ x16
    · skip
      refine ps_brp hc2 ?_
      refine And.intro trivial ?_
      (try simp only [if_pos hc2])
      exact hQ _ _ s_M17
    · skip
      refine ps_brn hc2 ?_
      (try simp only [if_neg hc2])
      have t_ := so_T_octetOf (d := d) (ρ := ρ) M17 a3 x16 s_M17 
      refine ps_let ?_
      generalize e_x18 : f_T_octetOf_v M17 a3 x16 = x18 at t_ ⊢
      have t_ := so_Y_store (d := d) (ρ := ρ) M17 (a1 + x16) x18 s_M17 
      refine ps_and t_.1 ?_
      replace t_ := t_.2
      refine ps_let ?_
      generalize e_M19 : f_Y_store_m M17 (a1 + x16) x18 = M19 at t_ ⊢
      have s_M19 := t_
      refine ps_let ?_
      generalize e_x20 : x16 + (1 : Int32) = x20
      have a_x20 : x20.toInt = x16.toInt + 1 := by rw [← e_x20, ti_add (by (try simp only [ti_le, ti_lt, Int32.reduceToInt] at *) <;> omega) (by (try simp only [ti_le, ti_lt, Int32.reduceToInt] at *) <;> omega)]; rfl
      exact hK1 x20 M19 s_M19 (by first | assumption | ((try simp only [ti_le, ti_lt, Int32.reduceToInt] at *) <;> omega)) (by first | assumption | ((try simp only [ti_le, ti_lt, Int32.reduceToInt] at *) <;> omega)) (by first | assumption | ((try simp only [ti_le, ti_lt, Int32.reduceToInt] at *) <;> omega))
