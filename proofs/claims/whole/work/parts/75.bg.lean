/-! The background. -/
theorem dot_s {M N : Mem} (h9 : M 9 = N 3) {p a u : Int32} (hp : 0 ≤ p.toInt ∧ p.toInt < 8191) (ha : a.toInt = p.toInt + 32768) : f_S_numberAt_v M p ((7 : Int32) - u) = f_R_dots_v N a u := by
  have e1 : (p &&& (8191 : Int32)) = p := by
    apply ti_inj
    have h := and_pow (s := p) ⟨hp.1, by omega⟩ 13 (by decide)
    have e : (8191 : Int32) = nI (2 ^ 13 - 1) := by decide
    rw [e, h]; show p.toInt % (8192 : Int) = p.toInt; omega
  have t1 := a1_ti (a := p) (by omega)
  have e2 : ((p + (1 : Int32)) &&& (8191 : Int32)) = p + (1 : Int32) := by
    apply ti_inj
    have h := and_pow (s := p + (1 : Int32)) ⟨by omega, by omega⟩ 13 (by decide)
    have e : (8191 : Int32) = nI (2 ^ 13 - 1) := by decide
    rw [e, h]; show (p + (1 : Int32)).toInt % (8192 : Int) = (p + (1 : Int32)).toInt; omega
  have c1 : (32768 : Int32).toInt = 32768 := by decide
  have c2 : (32767 : Int32).toInt = 32767 := by decide
  have e3 : a - (32768 : Int32) = p := by apply ti_inj; rw [ti_sub (by omega) (by omega)]; omega
  have e4 : a - (32767 : Int32) = p + (1 : Int32) := by apply ti_inj; rw [ti_sub (by omega) (by omega)]; omega
  unfold f_S_numberAt_v f_R_dots_v; dsimp only
  rw [e1, e2, e3, e4, h9]
  rcases b1 (N 3 p.toNatClampNeg >>> (((7 : Int32) - u) &&& (31 : Int32))) with x | x <;> rcases b1 (N 3 (p + (1 : Int32)).toNatClampNeg >>> (((7 : Int32) - u) &&& (31 : Int32))) with z | z <;> rw [x, z] <;> decide
theorem has_s {M N : Mem} (h : M 8 64 = N 0 33) (k : Int32) : f_S_has_v M k = if ((N 0 33) &&& k) = 0 then 0 else 1 := by
  unfold f_S_has_v f_S_has_j1_v; rw [h]
theorem d8_d : ∀ j : Fin 256, ((nI j.val >>> ((3 : Int32) &&& (31 : Int32))) &&& (31 : Int32)) = nI j.val / (8 : Int32) ∧ 0 ≤ (nI j.val / (8 : Int32)).toInt ∧ (nI j.val / (8 : Int32)).toInt < 32 ∧ ((16 : Int32) * nI j.val).toInt = 16 * (nI j.val).toInt ∧ ((16 : Int32) * (nI j.val).toInt8.toInt32).toInt = 16 * ((nI j.val).toInt8.toInt32).toInt ∧ -128 ≤ ((nI j.val).toInt8.toInt32).toInt ∧ ((nI j.val).toInt8.toInt32).toInt < 128 ∧ ((2 : Int32) * (nI j.val &&& (7 : Int32))).toInt = 2 * (nI j.val &&& (7 : Int32)).toInt := by decide +kernel
theorem d8 {x : Int32} (h : oct x) : ((x >>> ((3 : Int32) &&& (31 : Int32))) &&& (31 : Int32)) = x / (8 : Int32) ∧ 0 ≤ (x / (8 : Int32)).toInt ∧ (x / (8 : Int32)).toInt < 32 ∧ ((16 : Int32) * x).toInt = 16 * x.toInt ∧ ((16 : Int32) * x.toInt8.toInt32).toInt = 16 * (x.toInt8.toInt32).toInt ∧ -128 ≤ (x.toInt8.toInt32).toInt ∧ (x.toInt8.toInt32).toInt < 128 ∧ ((2 : Int32) * (x &&& (7 : Int32))).toInt = 2 * (x &&& (7 : Int32)).toInt := by
  obtain ⟨j, hj, e⟩ := of_nI (n := 256) h (by decide)
  rw [e]; exact d8_d ⟨j, hj⟩
theorem d32_d : ∀ j : Fin 32, ((32 : Int32) * nI j.val).toInt = 32 * (nI j.val).toInt := by decide +kernel
theorem map_s {d : Int32} {ρ : Nat → Int32} {M N : Mem} (h9 : M 9 = N 3) (h64 : M 8 64 = N 0 33) (sN : SR d ρ N) {c l k m : Int32} (hc : oct c) (hl : oct l) (hm : m.toInt = k.toInt + 32768) (hk : k = 6144 ∨ k = 7168) : f_S_mapNumber_j1_v M c l k = f_R_background_j5_v N c l m := by
  obtain ⟨c1, c2, c3, -⟩ := d8 hc
  obtain ⟨l1, l2, l3, -, -, -, -, l8⟩ := d8 hl
  have kk : k.toInt = 6144 ∨ k.toInt = 7168 := by rcases hk with rfl | rfl; exact Or.inl (by decide); exact Or.inr (by decide)
  have cK : (32768 : Int32).toInt = 32768 := by decide
  have l32 : ((32 : Int32) * (l / (8 : Int32))).toInt = 32 * (l / (8 : Int32)).toInt := by
    obtain ⟨j, hj, e⟩ := of_nI (n := 32) ⟨l2, l3⟩ (by decide)
    rw [e]; exact d32_d ⟨j, hj⟩
  unfold f_S_mapNumber_j1_v f_R_background_j5_v f_S_mapNumber_j2_v f_R_background_j6_v; dsimp only
  have ei : (((m + ((32 : Int32) * (l / (8 : Int32)))) + (c / (8 : Int32))) - (32768 : Int32)) = (k + ((32 : Int32) * (l / (8 : Int32)))) + (c / (8 : Int32)) := by
    apply ti_inj
    have a1 : (m + ((32 : Int32) * (l / (8 : Int32)))).toInt = m.toInt + 32 * (l / (8 : Int32)).toInt := by rw [ti_add (by omega) (by omega), l32]
    have a2 : (k + ((32 : Int32) * (l / (8 : Int32)))).toInt = k.toInt + 32 * (l / (8 : Int32)).toInt := by rw [ti_add (by omega) (by omega), l32]
    have a3 : ((m + ((32 : Int32) * (l / (8 : Int32)))) + (c / (8 : Int32))).toInt = m.toInt + 32 * (l / (8 : Int32)).toInt + (c / (8 : Int32)).toInt := by rw [ti_add (by omega) (by omega), a1]
    have a4 : ((k + ((32 : Int32) * (l / (8 : Int32)))) + (c / (8 : Int32))).toInt = k.toInt + 32 * (l / (8 : Int32)).toInt + (c / (8 : Int32)).toInt := by rw [ti_add (by omega) (by omega), a2]
    rw [ti_sub (by omega) (by omega), a3, a4]; omega
  rw [c1, l1, ei, h9]
  generalize ((k + ((32 : Int32) * (l / (8 : Int32)))) + (c / (8 : Int32))).toNatClampNeg = i
  have ot : oct (N 3 i) := sN.1 3 i (by decide) (by decide)
  generalize N 3 i = t at ot
  obtain ⟨-, -, -, t4, t5, t6, t7, -⟩ := d8 ot
  have ot1 := ot.1
  have ot2 := ot.2
  have l7 : 0 ≤ (l &&& (7 : Int32)).toInt ∧ (l &&& (7 : Int32)).toInt < 8 := and_lt (by decide)
  rw [has_s h64, ← sx_s N ot]
  by_cases hh : ((N 0 33) &&& (16 : Int32)) = 0
  · rw [if_pos hh, if_pos rfl, if_pos ((and_le0 (by decide)).mpr hh)]
    have k1 : (4096 : Int32).toInt = 4096 := by decide
    have k2 : (36864 : Int32).toInt = 36864 := by decide
    have b1 : ((4096 : Int32) + ((16 : Int32) * (t.toInt8.toInt32))).toInt = 4096 + 16 * (t.toInt8.toInt32).toInt := by rw [ti_add (by omega) (by omega), t5, k1]
    have b2 : ((36864 : Int32) + ((16 : Int32) * (t.toInt8.toInt32))).toInt = 36864 + 16 * (t.toInt8.toInt32).toInt := by rw [ti_add (by omega) (by omega), t5, k2]
    have b3 : (((4096 : Int32) + ((16 : Int32) * (t.toInt8.toInt32))) + ((2 : Int32) * (l &&& (7 : Int32)))).toInt = 4096 + 16 * (t.toInt8.toInt32).toInt + 2 * (l &&& (7 : Int32)).toInt := by rw [ti_add (by omega) (by omega), b1, l8]
    have b4 : (((36864 : Int32) + ((16 : Int32) * (t.toInt8.toInt32))) + ((2 : Int32) * (l &&& (7 : Int32)))).toInt = 36864 + 16 * (t.toInt8.toInt32).toInt + 2 * (l &&& (7 : Int32)).toInt := by rw [ti_add (by omega) (by omega), b2, l8]
    exact dot_s h9 (by rw [b3]; omega) (by rw [b3, b4]; omega)
  · rw [if_neg hh, if_neg (by decide), if_neg (fun e => hh ((and_le0 (by decide)).mp e))]
    have k2 : (32768 : Int32).toInt = 32768 := by decide
    have b2 : ((32768 : Int32) + ((16 : Int32) * t)).toInt = 32768 + 16 * t.toInt := by rw [ti_add (by omega) (by omega), t4, k2]
    have b3 : (((16 : Int32) * t) + ((2 : Int32) * (l &&& (7 : Int32)))).toInt = 16 * t.toInt + 2 * (l &&& (7 : Int32)).toInt := by rw [ti_add (by omega) (by omega), t4, l8]
    have b4 : (((32768 : Int32) + ((16 : Int32) * t)) + ((2 : Int32) * (l &&& (7 : Int32)))).toInt = 32768 + 16 * t.toInt + 2 * (l &&& (7 : Int32)).toInt := by rw [ti_add (by omega) (by omega), b2, l8]
    exact dot_s h9 (by rw [b3]; omega) (by rw [b3, b4]; omega)
theorem bg_s {d : Int32} {ρ : Nat → Int32} {M N : Mem} (h : RM M N) (sN : SR d ρ N) {x y : Int32} (hx : 0 ≤ x.toInt ∧ x.toInt < 160) (hy : 0 ≤ y.toInt ∧ y.toInt < 144) : f_S_backgroundNumber_v M x y = f_R_background_v N x y := by
  have h9 : M 9 = N 3 := h.1.2.2.1
  have h64 : M 8 64 = N 0 33 := h.2.2.g (by decide)
  have e75 : M 8 75 = N 0 44 := h.2.2.g (by decide)
  have e74 : M 8 74 = N 0 43 := h.2.2.g (by decide)
  have e67 : M 8 67 = N 0 36 := h.2.2.g (by decide)
  have e66 : M 8 66 = N 0 35 := h.2.2.g (by decide)
  have w44 : oct (N 0 44) := sN.f 44
  have w43 : oct (N 0 43) := sN.f 43
  have w44a := w44.1
  have w43a := w43.1
  have c7 : (7 : Int32).toInt = 7 := by decide
  have x7 : (x + (7 : Int32)).toInt = x.toInt + 7 := by rw [ti_add (by omega) (by omega), c7]
  -- the map itself
  have mp : ∀ (g c l b : Int32), 0 ≤ b.toInt → g = (if ((N 0 33) &&& b) = 0 then 0 else 1) → oct c → oct l → f_S_mapNumber_v M g c l = f_R_background_j4_v N c l b := by
    intro g c l b hb hg hc hl
    unfold f_S_mapNumber_v f_R_background_j4_v
    by_cases hh : ((N 0 33) &&& b) = 0
    · rw [if_pos hh] at hg
      rw [if_pos hg, if_pos ((and_le0 hb).mpr hh)]
      exact map_s h9 h64 sN hc hl (by decide) (Or.inl rfl)
    · rw [if_neg hh] at hg
      rw [if_neg (by rw [hg]; decide), if_neg (fun e => hh ((and_le0 hb).mp e))]
      exact map_s h9 h64 sN hc hl (by decide) (Or.inr rfl)
  have plain : f_S_backgroundNumber_j1_v M x y = f_R_background_j1_v N x y 0 := by
    unfold f_S_backgroundNumber_j1_v f_R_background_j1_v f_R_background_j2_v f_R_background_j3_v; dsimp only
    rw [if_pos rfl, if_pos rfl, if_pos rfl, has_s h64, e67, e66]
    exact mp _ _ _ 8 (by decide) rfl (and_lt (by decide)) (and_lt (by decide))
  unfold f_S_backgroundNumber_v f_R_background_v f_R_background_j7_v; dsimp only
  rw [has_s h64, has_s h64, has_s h64, e75, e74]
  by_cases h1 : ((N 0 33) &&& (1 : Int32)) = 0
  · rw [if_pos h1, if_pos rfl, if_pos h1]
  · rw [if_neg h1, if_neg (by decide), if_neg h1]
    by_cases h32 : ((N 0 33) &&& (32 : Int32)) = 0
    · rw [if_pos h32, if_pos rfl, if_pos ((and_le0 (by decide)).mpr h32)]; exact plain
    · rw [if_neg h32, if_neg (by decide), if_neg (fun e => h32 ((and_le0 (by decide)).mp e))]
      by_cases hw : y < N 0 43
      · rw [if_pos hw, if_pos hw]; exact plain
      · rw [if_neg hw, if_neg hw]
        by_cases hv : (x + (7 : Int32)) < N 0 44
        · rw [if_pos hv, if_pos hv]; exact plain
        · rw [if_neg hv, if_neg hv]
          rw [ti_lt] at hw hv
          unfold f_R_background_j1_v f_R_background_j2_v f_R_background_j3_v
          rw [if_neg (show ¬ (1 : Int32) = 0 by decide), if_neg (show ¬ (1 : Int32) = 0 by decide), if_neg (show ¬ (1 : Int32) = 0 by decide)]
          have o1 : oct ((x + (7 : Int32)) - N 0 44) := by unfold oct; rw [ti_sub (by omega) (by omega)]; omega
          have o2 : oct (y - N 0 43) := by unfold oct; rw [ti_sub (by omega) (by omega)]; omega
          exact mp _ _ _ 64 (by decide) rfl o1 o2
