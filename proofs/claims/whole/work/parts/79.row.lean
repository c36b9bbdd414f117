/-! A row agrees. -/
theorem l144 {b : Int32} (h : b < (144 : Int32)) : ¬ (143 : Int32) < b := by
  rw [ti_lt] at *; have h8 : (144 : Int32).toInt = 144 := by decide
  have h7 : (143 : Int32).toInt = 143 := by decide
  omega
theorem n144 {b : Int32} (h : ¬ b < (144 : Int32)) : (143 : Int32) < b := by
  rw [ti_lt] at *; have h8 : (144 : Int32).toInt = 144 := by decide
  have h7 : (143 : Int32).toInt = 143 := by decide
  omega
theorem fl_A14 : ∀ (n : Nat) (x : Int32) (M : Mem), 0 ≤ x.toInt → x.toInt ≤ 160 → 160 < x.toInt + n → ∀ c j : Nat, f_A_fill14_l1_m 0 n x M c j = if c = 14 ∧ x.toInt ≤ j ∧ j < 160 then 0 else M c j := by
  intro n
  induction n with
  | zero => intro x M h1 h2 h3; exact absurd h3 (by omega)
  | succ n ih =>
    intro x M h1 h2 h3 c j
    have hs : (160 : Int32).toInt = 160 := by decide
    rw [f_A_fill14_l1_m_s]; dsimp only
    by_cases hc : (160 : Int32) ≤ x
    · rw [if_pos hc, if_neg]
      rw [ti_le] at hc; omega
    · rw [if_neg hc]
      rw [ti_le] at hc
      have h7 := a1_ti (a := x) (by omega)
      have h8 := ti_clamp h1
      rw [ih _ _ (by omega) (by omega) (by omega)]
      by_cases e : c = 14
      · subst e
        by_cases e2 : j = x.toNatClampNeg
        · rw [if_neg (by omega), if_pos (by omega), e2, mst_eq]
        · rw [mst_ne e2]
          by_cases e3 : x.toInt ≤ j ∧ j < 160
          · rw [if_pos ⟨rfl, by omega, e3.2⟩, if_pos ⟨rfl, e3⟩]
          · rw [if_neg (by omega), if_neg (by omega)]
      · rw [if_neg (by omega), if_neg (by omega), mst_no e]
theorem fm_A14 (M : Mem) (c j : Nat) : f_A_fill14_m M 0 c j = if c = 14 ∧ j < 160 then 0 else M c j := by
  unfold f_A_fill14_m
  rw [fl_A14 _ _ _ (by decide) (by decide) (by decide)]
  by_cases e : c = 14 ∧ j < 160
  · rw [if_pos ⟨e.1, by show (0 : Int) ≤ j; omega, e.2⟩, if_pos e]
  · rw [if_neg (fun x => e ⟨x.1, x.2.2⟩), if_neg e]
def hgt (l : Int32) : Int32 := if (l &&& (4 : Int32)) = 0 then 8 else 16
theorem hgt_o (l : Int32) : hgt l = 8 ∨ hgt l = 16 := by
  unfold hgt; by_cases h : (l &&& (4 : Int32)) = 0
  · rw [if_pos h]; exact Or.inl rfl
  · rw [if_neg h]; exact Or.inr rfl
theorem spr_v (N : Mem) (x y : Int32) : f_R_sprite_v N x y = f_R_sprite_l1_v N x y (hgt (N 0 33)) 41 0 (-1) 0 := by
  unfold f_R_sprite_v f_R_sprite_j1_v hgt
  by_cases h : ((N 0 33) &&& (4 : Int32)) = 0
  · rw [if_pos ((and_le0 (by decide)).mpr h), if_pos h]
  · rw [if_neg (fun e => h ((and_le0 (by decide)).mp e)), if_neg h]
/-- what the class has of the sprites is what the reference finds, whatever its line holds -/
def SpA (S D : Nat → Int32) (l : Int32) (M : Mem) (y : Int32) : Prop := ∀ N : Mem, N 5 = S → N 3 = D → N 0 33 = l → ∀ j : Nat, j < 160 → Iv S M y (hgt l) j (f_R_sprite_v N (nI j) y)
theorem sp_off {S D : Nat → Int32} {l : Int32} {M : Mem} {y : Int32} (hl : (l &&& (2 : Int32)) = 0) : SpA S D l (f_A_fill14_m M 0) y := by
  intro N h5 h3 h33 j hj
  rw [spr_v, f_R_sprite_l1_v_s]; dsimp only
  rw [if_neg (by decide), if_neg (by decide), h33, if_pos ((and_le0 (by decide)).mpr hl)]
  refine Or.inl ⟨by decide, ?_⟩
  rw [fm_A14, if_pos ⟨rfl, hj⟩]
theorem sp_on {S D : Nat → Int32} {l : Int32} {M : Mem} {y : Int32} (oS : ∀ i : Nat, oct (S i)) (h9 : M 9 = D) (h10 : M 10 = S) (h64 : M 8 64 = l) (hl : ¬ (l &&& (2 : Int32)) = 0) : SpA S D l (f_S_chooseSprites_m (f_A_fill14_m M 0) y) y ∧ ∀ k : Nat, ¬ (k = 14 ∨ k = 15 ∨ k = 16) → f_S_chooseSprites_m (f_A_fill14_m M 0) y k = M k := by
  have fr : ∀ k : Nat, ¬ k = 14 → f_A_fill14_m M 0 k = M k := by
    intro k hk; funext j; rw [fm_A14, if_neg (fun e => hk e.1)]
  have e1 : f_S_chooseSprites_m (f_A_fill14_m M 0) y = f_S_chooseSprites_l1_m y (hgt l) 41 0 0 (f_A_fill14_m M 0) := by
    unfold f_S_chooseSprites_m f_S_chooseSprites_j1_m hgt; dsimp only
    unfold f_S_has_v f_S_has_j1_v
    rw [fr 8 (by decide), h64]
    by_cases h : (l &&& (4 : Int32)) = 0
    · rw [if_pos h, if_pos rfl, if_pos h]
    · rw [if_neg h, if_neg (show ¬ (1 : Int32) = 0 by decide), if_neg h]
  rw [e1]
  refine ⟨?_, fun k hk => (choose_f oS 41 0 0 _ ((fr 10 (by decide)).trans h10) (by decide) (by decide) (by decide) k hk).trans (fr k (by omega))⟩
  intro N h5 h3 h33 j hj
  rw [spr_v, h33]
  have e0 : (0 : Int32) = (4 : Int32) * 0 := by decide
  have := choose_l (N := N) h5 oS (y := y) (hgt_o l) (by rw [h33]; exact fun e => hl ((and_le0 (by decide)).mp e)) hj 41 0 (-1) 0 (f_A_fill14_m M 0) ((fr 9 (by decide)).trans (h9.trans h3.symm)) ((fr 10 (by decide)).trans h10) (by decide) (by decide) (by decide) (Or.inl ⟨by decide, by rw [fm_A14, if_pos ⟨rfl, hj⟩]⟩)
  exact this
theorem pal_d : ∀ j : Fin 256, ((nI j.val &&& (16 : Int32)) = 0 → (((72 : Int32) + ((nI j.val >>> ((4 : Int32) &&& (31 : Int32))) &&& (1 : Int32)))).toNatClampNeg = 72) ∧ (¬ (nI j.val &&& (16 : Int32)) = 0 → (((72 : Int32) + ((nI j.val >>> ((4 : Int32) &&& (31 : Int32))) &&& (1 : Int32)))).toNatClampNeg = 73) := by decide +kernel
theorem pal {f : Int32} (h : oct f) : ((f &&& (16 : Int32)) = 0 → (((72 : Int32) + ((f >>> ((4 : Int32) &&& (31 : Int32))) &&& (1 : Int32)))).toNatClampNeg = 72) ∧ (¬ (f &&& (16 : Int32)) = 0 → (((72 : Int32) + ((f >>> ((4 : Int32) &&& (31 : Int32))) &&& (1 : Int32)))).toNatClampNeg = 73) := by
  obtain ⟨j, hj, e⟩ := of_nI (n := 256) h (by decide)
  rw [e]; exact pal_d ⟨j, hj⟩
theorem row_step {d : Int32} {ρ : Nat → Int32} {M N : Mem} (hm : RM M N) (sN : SR d ρ N) {x y : Int32} (hx : 0 ≤ x.toInt ∧ x.toInt < 160) (hy : 0 ≤ y.toInt ∧ y.toInt < 144) (l7 : ¬ ((N 0 33) &&& (128 : Int32)) ≤ 0) (hI : Iv (N 5) M y (hgt (N 0 33)) x.toNatClampNeg (f_R_sprite_v N x y)) (n : Nat) (s : Int32) :
    f_R_row_l1_v y (n + 1) s x N = f_R_row_l1_v y n (s + f_S_colour_v M x (f_S_backgroundNumber_v M x y)) (x + (1 : Int32)) (mst N 7 x.toNatClampNeg (f_S_colour_v M x (f_S_backgroundNumber_v M x y))) ∧ f_R_row_l1_m y (n + 1) s x N = f_R_row_l1_m y n (s + f_S_colour_v M x (f_S_backgroundNumber_v M x y)) (x + (1 : Int32)) (mst N 7 x.toNatClampNeg (f_S_colour_v M x (f_S_backgroundNumber_v M x y))) := by
  have c160 : (160 : Int32).toInt = 160 := by decide
  have n160 : ¬ (160 : Int32) ≤ x := by rw [ti_le]; omega
  have nx : nI x.toNatClampNeg = x := by
    obtain ⟨j, hj, e⟩ := of_nI (n := 160) hx (by decide)
    have h9 : (nI j).toInt = j := nI_ti hj
    have h8 := ti_clamp (x := x) hx.1
    have : x.toNatClampNeg = j := by rw [e] at h8 ⊢; omega
    rw [this, ← e]
  have e71 : M 8 71 = N 0 40 := hm.2.2.g (by decide)
  have e72 : M 8 72 = N 0 41 := hm.2.2.g (by decide)
  have e73 : M 8 73 = N 0 42 := hm.2.2.g (by decide)
  have h9 : M 9 = N 3 := hm.1.2.2.1
  rw [f_R_row_l1_v_s, f_R_row_l1_m_s]; dsimp only
  rw [if_neg n160, if_neg n160, ← bg_s hm sN hx hy]
  generalize f_S_backgroundNumber_v M x y = g
  generalize f_R_sprite_v N x y = b at hI
  have j2 : ∀ v : Int32, v = f_S_colour_v M x g → f_R_row_j2_v s x N (f_R_row_l1_v y n) v = f_R_row_l1_v y n (s + f_S_colour_v M x g) (x + (1 : Int32)) (mst N 7 x.toNatClampNeg (f_S_colour_v M x g)) ∧ f_R_row_j2_m s x N (f_R_row_l1_m y n) v = f_R_row_l1_m y n (s + f_S_colour_v M x g) (x + (1 : Int32)) (mst N 7 x.toNatClampNeg (f_S_colour_v M x g)) := by
    intro v hv
    unfold f_R_row_j2_v f_R_row_j2_m f_R_row_j3_v f_R_row_j3_m; dsimp only
    rw [if_neg l7, if_neg l7, mst_eq, hv]; exact ⟨rfl, rfl⟩
  rcases hI with ⟨b0, m14⟩ | ⟨b0, ht, hu, m14, m14z, m15, m16⟩
  · rw [if_pos b0, if_pos b0]
    refine j2 _ ?_
    unfold f_S_colour_v f_S_colour_j1_v; dsimp only
    rw [if_pos m14, e71]
  · rw [if_neg b0, if_neg b0]
    have hnum := num_s2 (k := b) (h := hgt (N 0 33)) h9 rfl (fun i => sN.a (c := 5) (by decide)) (hgt_o _) ht hu
    rw [← m14] at hnum
    have of : oct (N 5 ((b + (3 : Int32))).toNatClampNeg) := sN.a (c := 5) (by decide)
    have hp := pal of
    have j4 : (f_S_colour_v M x g = f_S_colour_j2_v M (M 14 x.toNatClampNeg) (N 5 ((b + (3 : Int32))).toNatClampNeg)) → f_R_row_j4_v y s x N b (f_R_row_l1_v y n) = f_R_row_l1_v y n (s + f_S_colour_v M x g) (x + (1 : Int32)) (mst N 7 x.toNatClampNeg (f_S_colour_v M x g)) ∧ f_R_row_j4_m y s x N b (f_R_row_l1_m y n) = f_R_row_l1_m y n (s + f_S_colour_v M x g) (x + (1 : Int32)) (mst N 7 x.toNatClampNeg (f_S_colour_v M x g)) := by
      intro hc
      have ev : f_R_row_j4_v y s x N b (f_R_row_l1_v y n) = f_R_row_j5_v y s x N b (f_R_row_l1_v y n) (hgt (N 0 33)) ∧ f_R_row_j4_m y s x N b (f_R_row_l1_m y n) = f_R_row_j5_m y s x N b (f_R_row_l1_m y n) (hgt (N 0 33)) := by
        unfold f_R_row_j4_v f_R_row_j4_m hgt
        by_cases h : ((N 0 33) &&& (4 : Int32)) = 0
        · rw [if_pos ((and_le0 (by decide)).mpr h), if_pos h, if_pos ((and_le0 (by decide)).mpr h)]; exact ⟨rfl, rfl⟩
        · rw [if_neg (fun e => h ((and_le0 (by decide)).mp e)), if_neg h, if_neg (fun e => h ((and_le0 (by decide)).mp e))]; exact ⟨rfl, rfl⟩
      rw [ev.1, ev.2]
      have hu2 : x - ((N 5 ((b + (1 : Int32))).toNatClampNeg) - (8 : Int32)) = pU (N 5 ((b + (1 : Int32))).toNatClampNeg) x.toNatClampNeg := by unfold pU; rw [nx]
      unfold f_R_row_j5_v f_R_row_j5_m f_R_row_j6_v f_R_row_j6_m; dsimp only
      rw [hu2, hnum]
      unfold f_S_colour_j2_v at hc
      by_cases h16 : ((N 5 ((b + (3 : Int32))).toNatClampNeg) &&& (16 : Int32)) = 0
      · rw [if_pos ((and_le0 (by decide)).mpr h16), if_pos ((and_le0 (by decide)).mpr h16)]
        refine j2 _ ?_
        rw [hc, hp.1 h16, e72]
      · rw [if_neg (fun e => h16 ((and_le0 (by decide)).mp e)), if_neg (fun e => h16 ((and_le0 (by decide)).mp e))]
        refine j2 _ ?_
        rw [hc, hp.2 h16, e73]
    by_cases h128 : ((N 5 ((b + (3 : Int32))).toNatClampNeg) &&& (128 : Int32)) = 0
    · rw [if_pos h128, if_pos h128]
      refine j4 ?_
      unfold f_S_colour_v; dsimp only
      rw [if_neg m14z, m16, if_pos h128]
    · rw [if_neg h128, if_neg h128]
      by_cases hg : g = 0
      · rw [if_pos hg, if_pos hg]
        refine j4 ?_
        unfold f_S_colour_v; dsimp only
        rw [if_neg m14z, m16, if_neg h128, if_pos hg]
      · rw [if_neg hg, if_neg hg]
        refine j2 _ ?_
        unfold f_S_colour_v f_S_colour_j1_v; dsimp only
        rw [if_neg m14z, m16, if_neg h128, if_neg hg, e71]
/-- both loops, side by side -/
theorem row_loop {d : Int32} {ρ : Nat → Int32} {S D : Nat → Int32} {l y : Int32} (hy : 0 ≤ y.toInt ∧ y.toInt < 144) (l7 : ¬ (l &&& (128 : Int32)) = 0) : ∀ (n : Nat) (s x : Int32) (M N : Mem), RM M N → SR d ρ N → N 5 = S → N 3 = D → N 0 33 = l → SpA S D l M y → M 13 = N 7 → 0 ≤ x.toInt → x.toInt ≤ 160 → 160 < x.toInt + n →
    f_S_make_l1_v y n s x M = f_R_row_l1_v y n s x N ∧ f_S_make_l1_m y n s x M 13 = f_R_row_l1_m y n s x N 7 ∧ (∀ k : Nat, ¬ k = 13 → f_S_make_l1_m y n s x M k = M k) ∧ (∀ k : Nat, ¬ k = 7 → f_R_row_l1_m y n s x N k = N k) := by
  intro n
  induction n with
  | zero => intro s x M N _ _ _ _ _ _ _ h1 h2 h3; omega
  | succ n ih =>
    intro s x M N hm sN h5 h3' h33 sp h13 h1 h2 h3
    have c160 : (160 : Int32).toInt = 160 := by decide
    by_cases h160 : (160 : Int32) ≤ x
    · rw [f_S_make_l1_v_s, f_S_make_l1_m_s, f_R_row_l1_v_s, f_R_row_l1_m_s]; dsimp only
      rw [if_pos h160, if_pos h160, if_pos h160, if_pos h160]
      exact ⟨rfl, h13, fun _ _ => rfl, fun _ _ => rfl⟩
    have x160 : x.toInt < 160 := by rw [ti_le] at h160; omega
    have t1 := a1_ti (a := x) (by omega)
    have nx : nI x.toNatClampNeg = x := by
      obtain ⟨j, hj, e⟩ := of_nI (n := 160) ⟨h1, x160⟩ (by decide)
      have h9 : (nI j).toInt = j := nI_ti hj
      have h8 := ti_clamp (x := x) h1
      have : x.toNatClampNeg = j := by rw [e] at h8 ⊢; omega
      rw [this, ← e]
    have xc : x.toNatClampNeg < 160 := by have := ti_clamp (x := x) h1; omega
    have hI := sp N h5 h3' h33 x.toNatClampNeg xc
    rw [nx, ← h5, ← h33] at hI
    obtain ⟨r1, r2⟩ := row_step hm sN ⟨h1, x160⟩ hy (by rw [h33]; exact fun e => l7 ((and_le0 (by decide)).mp e)) hI n s
    rw [r1, r2, f_S_make_l1_v_s, f_S_make_l1_m_s]; dsimp only
    rw [if_neg h160, if_neg h160, mst_eq]
    generalize f_S_colour_v M x (f_S_backgroundNumber_v M x y) = v
    have same : mst M 13 x.toNatClampNeg v 13 = mst N 7 x.toNatClampNeg v 7 := by
      funext i
      by_cases e : i = x.toNatClampNeg
      · rw [e, mst_eq, mst_eq]
      · rw [mst_ne e, mst_ne e, h13]
    obtain ⟨i1, i2, i3, i4⟩ := ih (s + v) (x + (1 : Int32)) (mst M 13 x.toNatClampNeg v) (mst N 7 x.toNatClampNeg v) ((hm.m (Or.inr (by decide)) v).n (Or.inl rfl) v) sN.sl (by rw [mst_no (by decide)]; exact h5) (by rw [mst_no (by decide)]; exact h3') (by rw [mst_no (by decide)]; exact h33) (fun N' a b c j hj => (sp N' a b c j hj).c (mst_no (by decide)) (fun k hk => by rw [mst_no (by omega)])) same (by omega) (by omega) (by omega)
    exact ⟨i1, i2, fun k hk => (i3 k hk).trans (mst_no hk), fun k hk => (i4 k hk).trans (mst_no hk)⟩
/-- the reference with the screen off -/
theorem row_off {y : Int32} : ∀ (n : Nat) (x : Int32) (N : Mem), ((N 0 33) &&& (128 : Int32)) = 0 → 0 ≤ x.toInt → x.toInt ≤ 160 → 160 < x.toInt + n → f_R_row_l1_v y n 0 x N = 0 ∧ ∀ c j : Nat, f_R_row_l1_m y n 0 x N c j = if c = 7 ∧ x.toInt ≤ j ∧ j < 160 then 0 else N c j := by
  intro n
  induction n with
  | zero => intro x N _ h1 h2 h3; omega
  | succ n ih =>
    intro x N hl h1 h2 h3
    have c160 : (160 : Int32).toInt = 160 := by decide
    rw [f_R_row_l1_v_s, f_R_row_l1_m_s]; dsimp only
    by_cases h160 : (160 : Int32) ≤ x
    · rw [if_pos h160, if_pos h160]
      rw [ti_le] at h160
      exact ⟨rfl, fun c j => by rw [if_neg (by omega)]⟩
    rw [if_neg h160, if_neg h160]
    rw [ti_le] at h160
    have t1 := a1_ti (a := x) (by omega)
    have h8 := ti_clamp h1
    have l7 := (and_le0 (x := N 0 33) (k := 128) (by decide)).mpr hl
    have j2 : ∀ v : Int32, f_R_row_j2_v 0 x N (f_R_row_l1_v y n) v = 0 ∧ ∀ c j : Nat, f_R_row_j2_m 0 x N (f_R_row_l1_m y n) v c j = if c = 7 ∧ x.toInt ≤ j ∧ j < 160 then 0 else N c j := by
      intro v
      unfold f_R_row_j2_v f_R_row_j2_m f_R_row_j3_v f_R_row_j3_m; dsimp only
      rw [if_pos l7, if_pos l7, mst_eq, Int32.add_zero]
      obtain ⟨i1, i2⟩ := ih (x + (1 : Int32)) (mst N 7 x.toNatClampNeg 0) (by rw [mst_no (by decide)]; exact hl) (by omega) (by omega) (by omega)
      refine ⟨i1, fun c j => ?_⟩
      rw [i2]
      by_cases e : c = 7
      · subst e
        by_cases e2 : j = x.toNatClampNeg
        · rw [if_neg (by omega), if_pos (by omega), e2, mst_eq]
        · rw [mst_ne e2]
          by_cases e3 : x.toInt ≤ j ∧ j < 160
          · rw [if_pos ⟨rfl, by omega, e3.2⟩, if_pos ⟨rfl, e3⟩]
          · rw [if_neg (by omega), if_neg (by omega)]
      · rw [if_neg (by omega), if_neg (by omega), mst_no e]
    have j4 : ∀ b : Int32, f_R_row_j4_v y 0 x N b (f_R_row_l1_v y n) = 0 ∧ ∀ c j : Nat, f_R_row_j4_m y 0 x N b (f_R_row_l1_m y n) c j = if c = 7 ∧ x.toInt ≤ j ∧ j < 160 then 0 else N c j := by
      intro b
      have j6 : ∀ u w : Int32, f_R_row_j6_v 0 x N u (f_R_row_l1_v y n) w = 0 ∧ ∀ c j : Nat, f_R_row_j6_m 0 x N u (f_R_row_l1_m y n) w c j = if c = 7 ∧ x.toInt ≤ j ∧ j < 160 then 0 else N c j := fun u w => j2 _
      have j5 : ∀ h : Int32, f_R_row_j5_v y 0 x N b (f_R_row_l1_v y n) h = 0 ∧ ∀ c j : Nat, f_R_row_j5_m y 0 x N b (f_R_row_l1_m y n) h c j = if c = 7 ∧ x.toInt ≤ j ∧ j < 160 then 0 else N c j := by
        intro h
        unfold f_R_row_j5_v f_R_row_j5_m; dsimp only
        by_cases e : ((N 5 ((b + (3 : Int32))).toNatClampNeg) &&& (16 : Int32)) ≤ 0
        · rw [if_pos e, if_pos e]; exact j6 _ _
        · rw [if_neg e, if_neg e]; exact j6 _ _
      unfold f_R_row_j4_v f_R_row_j4_m
      by_cases e : ((N 0 33) &&& (4 : Int32)) ≤ 0
      · rw [if_pos e, if_pos e]; exact j5 _
      · rw [if_neg e, if_neg e]; exact j5 _
    generalize f_R_background_v N x y = g
    generalize f_R_sprite_v N x y = b
    by_cases b0 : b < 0
    · rw [if_pos b0, if_pos b0]; exact j2 _
    rw [if_neg b0, if_neg b0]
    by_cases h128 : ((N 5 ((b + (3 : Int32))).toNatClampNeg) &&& (128 : Int32)) = 0
    · rw [if_pos h128, if_pos h128]; exact j4 _
    rw [if_neg h128, if_neg h128]
    by_cases hg : g = 0
    · rw [if_pos hg, if_pos hg]; exact j4 _
    · rw [if_neg hg, if_neg hg]; exact j2 _
/-- a row: the same sum, the same line, nothing else touched -/
theorem row_z {d : Int32} {ρ : Nat → Int32} {M N : Mem} (rz : RZ d ρ M N) {y : Int32} (hy : 0 ≤ y.toInt ∧ y.toInt < 144) : f_S_make_v M y = f_R_row_l1_v y 161 0 0 N ∧ f_S_make_m M y 13 = f_R_row_l1_m y 161 0 0 N 7 ∧ (∀ k : Nat, ¬ (13 ≤ k ∧ k ≤ 16) → f_S_make_m M y k = M k) ∧ (∀ k : Nat, ¬ k = 7 → f_R_row_l1_m y 161 0 0 N k = N k) := by
  obtain ⟨⟨hm, hg, sN, hrest⟩, ⟨h13, hrest2⟩, hr3⟩ := rz
  have h64 : M 8 64 = N 0 33 := hm.2.2.g (by decide)
  have h9 : M 9 = N 3 := hm.1.2.2.1
  have h10 : M 10 = N 5 := hm.1.2.2.2.2.1
  have oS : ∀ i : Nat, oct (N 5 i) := fun i => sN.a (c := 5) (by decide)
  unfold f_S_make_v f_S_make_m; dsimp only
  rw [has_s h64]
  by_cases l7 : ((N 0 33) &&& (128 : Int32)) = 0
  · rw [if_pos l7, if_pos rfl, if_pos rfl]
    obtain ⟨q1, q2⟩ := row_off (y := y) 161 0 N l7 (by decide) (by decide) (by decide)
    refine ⟨q1.symm, ?_, ?_, ?_⟩
    · funext j
      rw [q2, fm_A13]
      by_cases e : j < 160
      · rw [if_pos ⟨rfl, e⟩, if_pos ⟨rfl, by show (0 : Int) ≤ j; omega, e⟩]
      · rw [if_neg (fun x => e x.2), if_neg (fun x => e x.2.2), h13]
    · intro k hk; funext j; rw [fm_A13, if_neg (fun e => hk (by omega))]
    · intro k hk; funext j; rw [q2, if_neg (fun e => hk e.1)]
  · rw [if_neg l7, if_neg (show ¬ (1 : Int32) = 0 by decide), if_neg (show ¬ (1 : Int32) = 0 by decide)]
    have fr : ∀ k : Nat, ¬ k = 14 → f_A_fill14_m M 0 k = M k := by
      intro k hk; funext j; rw [fm_A14, if_neg (fun e => hk e.1)]
    have fin : ∀ R : Mem, SpA (N 5) (N 3) (N 0 33) R y → (∀ k : Nat, ¬ (k = 14 ∨ k = 15 ∨ k = 16) → R k = M k) → f_S_make_j1_v y R = f_R_row_l1_v y 161 0 0 N ∧ f_S_make_j1_m y R 13 = f_R_row_l1_m y 161 0 0 N 7 ∧ (∀ k : Nat, ¬ (13 ≤ k ∧ k ≤ 16) → f_S_make_j1_m y R k = M k) ∧ (∀ k : Nat, ¬ k = 7 → f_R_row_l1_m y 161 0 0 N k = N k) := by
      intro R sp hR
      have hmR : RM R N := ⟨hm.1.c (fun c hc => hR c (by omega)) (fun _ _ _ => rfl), hm.2.1.c (hR 1 (by decide)) (fun _ _ _ => rfl), hm.2.2.c (hR 8 (by decide)) (hR 2 (by decide)) (fun _ _ => rfl)⟩
      unfold f_S_make_j1_v f_S_make_j1_m
      obtain ⟨i1, i2, i3, i4⟩ := row_loop (d := d) (ρ := ρ) hy l7 161 0 0 R N hmR sN rfl rfl rfl sp ((hR 13 (by decide)).trans h13) (by decide) (by decide) (by decide)
      exact ⟨i1, i2, fun k hk => (i3 k (by omega)).trans (hR k (by omega)), i4⟩
    have h64' : f_A_fill14_m M 0 8 64 = N 0 33 := by rw [fr 8 (by decide)]; exact h64
    rw [has_s h64']
    by_cases l2 : ((N 0 33) &&& (2 : Int32)) = 0
    · rw [if_pos l2, if_pos rfl, if_pos rfl]
      exact fin _ (sp_off l2) (fun k hk => fr k (by omega))
    · rw [if_neg l2, if_neg (show ¬ (1 : Int32) = 0 by decide), if_neg (show ¬ (1 : Int32) = 0 by decide)]
      obtain ⟨s1, s2⟩ := sp_on (y := y) oS h9 h10 h64 l2
      exact fin _ s1 s2
theorem RZ.row {d : Int32} {ρ : Nat → Int32} {M N M' N' : Mem} (rz : RZ d ρ M N) (h13 : M' 13 = N' 7) (hM : ∀ k : Nat, ¬ (13 ≤ k ∧ k ≤ 16) → M' k = M k) (hN : ∀ k : Nat, ¬ k = 7 → N' k = N k) (sN : SR d ρ N') : RZ d ρ M' N' := by
  obtain ⟨⟨hm, hg, -, fz, dr, hd⟩, ⟨-, hf⟩, hb, hi⟩ := rz
  have hmR : RM M' N' := ⟨hm.1.c (fun c hc => hM c (by omega)) (fun c _ _ => hN c (by omega)), hm.2.1.c (hM 1 (by decide)) (fun j _ _ => by rw [hN 0 (by decide)]), hm.2.2.c (hM 8 (by decide)) (hM 2 (by decide)) (fun j _ => by rw [hN 0 (by decide)])⟩
  refine ⟨⟨hmR, ?_, sN, ?_, ?_, hd⟩, ⟨h13, ?_⟩, ?_, ?_⟩
  · rw [hM 17 (by decide), hM 5 (by decide), hN 8 (by decide), hN 0 (by decide)]; exact hg
  · unfold FZ at *; rw [hN 8 (by decide)]; exact fz
  · unfold DR at *; rw [hN 0 (by decide)]; exact dr
  · rw [hM 5 (by decide), hN 0 (by decide)]; exact hf
  · rw [hN 0 (by decide)]; exact hb
  · unfold IM at *; rw [hM 5 (by decide), hN 0 (by decide)]; exact hi
