/-! Sprites: their numbers. -/
/-- the place of a sprite's row of dots, as the class has it -/
def sPl (S : Nat → Int32) (k t h : Int32) : Int32 := ((16 : Int32) * (if h = (16 : Int32) then (S ((k + (2 : Int32))).toNatClampNeg) &&& (254 : Int32) else S ((k + (2 : Int32))).toNatClampNeg)) + ((2 : Int32) * (if ((S ((k + (3 : Int32))).toNatClampNeg) &&& (64 : Int32)) = 0 then t else (h - (1 : Int32)) - t))
def sBit (S : Nat → Int32) (k c : Int32) : Int32 := if ((S ((k + (3 : Int32))).toNatClampNeg) &&& (32 : Int32)) = 0 then (7 : Int32) - c else c
theorem t254 : ∀ j : Fin 256, (nI j.val &&& (254 : Int32)).toInt ≤ 254 ∧ 0 ≤ (nI j.val &&& (254 : Int32)).toInt := by decide +kernel
theorem m16i {x : Int32} (h : oct x) : ((16 : Int32) * x).toInt = 16 * x.toInt := (d8 h).2.2.2.1
theorem m2_d : ∀ j : Fin 16, ((2 : Int32) * nI j.val).toInt = 2 * (nI j.val).toInt := by decide +kernel
theorem m2i {x : Int32} (h : 0 ≤ x.toInt ∧ x.toInt < 16) : ((2 : Int32) * x).toInt = 2 * x.toInt := by
  obtain ⟨j, hj, e⟩ := of_nI (n := 16) h (by decide)
  rw [e]; exact m2_d ⟨j, hj⟩
theorem num_s2 {M N : Mem} (h9 : M 9 = N 3) {S : Nat → Int32} (hS : N 5 = S) (oS : ∀ i : Nat, oct (S i)) {k t c h : Int32} (hh : h = 8 ∨ h = 16) (ht : 0 ≤ t.toInt ∧ t.toInt < h.toInt) (hc : 0 ≤ c.toInt ∧ c.toInt < 8) : f_R_number_v N k t c h = f_S_numberAt_v M (sPl S k t h) (sBit S k c) := by
  have c1 : (1 : Int32).toInt = 1 := by decide
  have cK : (32768 : Int32).toInt = 32768 := by decide
  have c7 : (7 : Int32).toInt = 7 := by decide
  have hi : h.toInt = 8 ∨ h.toInt = 16 := by rcases hh with rfl | rfl; exact Or.inl (by decide); exact Or.inr (by decide)
  have o2 := oS ((k + (2 : Int32))).toNatClampNeg
  have o254 : oct ((S ((k + (2 : Int32))).toNatClampNeg) &&& (254 : Int32)) := andl_rng o2
  have le254 : ((S ((k + (2 : Int32))).toNatClampNeg) &&& (254 : Int32)).toInt ≤ 254 := by
    obtain ⟨j, hj, e⟩ := of_nI (n := 256) o2 (by decide)
    rw [e]; exact (t254 ⟨j, hj⟩).1
  have r1 : (h - (1 : Int32)).toInt = h.toInt - 1 := by rw [ti_sub (by omega) (by omega), c1]
  have r2 : ((h - (1 : Int32)) - t).toInt = h.toInt - 1 - t.toInt := by rw [ti_sub (by omega) (by omega), r1]
  have key : ∀ (tile row : Int32), oct tile → (0 ≤ row.toInt ∧ row.toInt < 16) → (16 * tile.toInt + 2 * row.toInt < 8191) → ∀ u : Int32, f_R_dots_v N (((32768 : Int32) + ((16 : Int32) * tile)) + ((2 : Int32) * row)) u = f_S_numberAt_v M (((16 : Int32) * tile) + ((2 : Int32) * row)) ((7 : Int32) - u) := by
    intro tile row h1 h2 h3 u
    have a1 := m16i h1
    have a2 := m2i h2
    have h11 := h1.1
    have h12 := h1.2
    have b1 : ((32768 : Int32) + ((16 : Int32) * tile)).toInt = 32768 + 16 * tile.toInt := by rw [ti_add (by omega) (by omega), cK, a1]
    have b2 : (((32768 : Int32) + ((16 : Int32) * tile)) + ((2 : Int32) * row)).toInt = 32768 + 16 * tile.toInt + 2 * row.toInt := by rw [ti_add (by omega) (by omega), b1, a2]
    have b3 : (((16 : Int32) * tile) + ((2 : Int32) * row)).toInt = 16 * tile.toInt + 2 * row.toInt := by rw [ti_add (by omega) (by omega), a1, a2]
    exact (dot_s h9 (by rw [b3]; omega) (by rw [b2, b3]; omega)).symm
  have seven : (7 : Int32) - ((7 : Int32) - c) = c := by
    apply ti_inj
    have e1 : ((7 : Int32) - c).toInt = 7 - c.toInt := by rw [ti_sub (by omega) (by omega), c7]
    rw [ti_sub (by omega) (by omega), e1, c7]; omega
  have j2 : ∀ (tile row : Int32), oct tile → (0 ≤ row.toInt ∧ row.toInt < 16) → (16 * tile.toInt + 2 * row.toInt < 8191) → f_R_number_j2_v N c (S ((k + (3 : Int32))).toNatClampNeg) tile row = f_S_numberAt_v M (((16 : Int32) * tile) + ((2 : Int32) * row)) (sBit S k c) := by
    intro tile row h1 h2 h3
    unfold f_R_number_j2_v f_R_number_j3_v sBit; dsimp only
    by_cases e : ((S ((k + (3 : Int32))).toNatClampNeg) &&& (32 : Int32)) = 0
    · rw [if_pos ((and_le0 (by decide)).mpr e), if_pos e]; exact key tile row h1 h2 h3 c
    · rw [if_neg (fun x => e ((and_le0 (by decide)).mp x)), if_neg e, key tile row h1 h2 h3, seven]
  unfold f_R_number_v f_R_number_j1_v sPl; dsimp only
  rw [hS]
  have h11 := o2.1
  have h12 := o2.2
  have h13 := o254.1
  by_cases e6 : ((S ((k + (3 : Int32))).toNatClampNeg) &&& (64 : Int32)) = 0
  · have l6 := (and_le0 (k := 64) (x := S ((k + (3 : Int32))).toNatClampNeg) (by decide)).mpr e6
    by_cases e16 : h = 16
    · rw [if_pos e16, if_pos e16, if_pos l6, if_pos e6]; exact j2 _ _ o254 (by omega) (by omega)
    · have h8 : h.toInt = 8 := by rcases hh with rfl | rfl; decide; exact absurd rfl e16
      rw [if_neg e16, if_neg e16, if_pos l6, if_pos e6]; exact j2 _ _ o2 (by omega) (by omega)
  · have l6 : ¬ ((S ((k + (3 : Int32))).toNatClampNeg) &&& (64 : Int32)) ≤ 0 := fun x => e6 ((and_le0 (by decide)).mp x)
    by_cases e16 : h = 16
    · rw [if_pos e16, if_pos e16, if_neg l6, if_neg e6]; exact j2 _ _ o254 (by omega) (by omega)
    · have h8 : h.toInt = 8 := by rcases hh with rfl | rfl; decide; exact absurd rfl e16
      rw [if_neg e16, if_neg e16, if_neg l6, if_neg e6]; exact j2 _ _ o2 (by omega) (by omega)
