/-! Sprites on a row: which one is seen. -/
def Iv (S : Nat → Int32) (M : Mem) (y h : Int32) (j : Nat) (b : Int32) : Prop :=
  (b < 0 ∧ M 14 j = 0) ∨ (¬ b < 0 ∧ (0 ≤ (y - ((S b.toNatClampNeg) - (16 : Int32))).toInt ∧ (y - ((S b.toNatClampNeg) - (16 : Int32))).toInt < h.toInt) ∧ (0 ≤ (pU (S ((b + (1 : Int32))).toNatClampNeg) j).toInt ∧ (pU (S ((b + (1 : Int32))).toNatClampNeg) j).toInt < 8) ∧ M 14 j = f_S_numberAt_v M (sPl S b (y - ((S b.toNatClampNeg) - (16 : Int32))) h) (sBit S b (pU (S ((b + (1 : Int32))).toNatClampNeg) j)) ∧ ¬ M 14 j = 0 ∧ M 15 j = S ((b + (1 : Int32))).toNatClampNeg ∧ M 16 j = S ((b + (3 : Int32))).toNatClampNeg)
theorem Iv.c {S : Nat → Int32} {M M' : Mem} {y h : Int32} {j : Nat} {b : Int32} (H : Iv S M y h j b) (h9 : M' 9 = M 9) (hj : ∀ k : Nat, k = 14 ∨ k = 15 ∨ k = 16 → M' k j = M k j) : Iv S M' y h j b := by
  unfold Iv at *
  rw [hj 14 (by decide), hj 15 (by decide), hj 16 (by decide), nA_c h9]; exact H
theorem choose_l {N : Mem} {S : Nat → Int32} (hS : N 5 = S) (oS : ∀ i : Nat, oct (S i)) {y h : Int32} (hh : h = 8 ∨ h = 16) (l2 : ¬ ((N 0 33) &&& (2 : Int32)) ≤ 0) {j : Nat} (hj : j < 160) : ∀ (n : Nat) (ch b i : Int32) (M : Mem), M 9 = N 3 → M 10 = S → 0 ≤ i.toInt → i.toInt ≤ 40 → 40 < i.toInt + n → Iv S M y h j b → Iv S (f_S_chooseSprites_l1_m y h n ch i M) y h j (f_R_sprite_l1_v N (nI j) y h n ch b ((4 : Int32) * i)) := by
  intro n
  induction n with
  | zero => intro ch b i M h9 h10 h1 h2 h3; omega
  | succ n ih =>
    intro ch b i M h9 h10 h1 h2 h3 hI
    have c1 : (1 : Int32).toInt = 1 := by decide
    have c0 : (0 : Int32).toInt = 0 := by decide
    have c4 : (4 : Int32).toInt = 4 := by decide
    have c7 : (7 : Int32).toInt = 7 := by decide
    have c40 : (40 : Int32).toInt = 40 := by decide
    have c160 : (160 : Int32).toInt = 160 := by decide
    have m4 : ((4 : Int32) * i).toInt = 4 * i.toInt := by rw [ti_mul (by rw [c4]; omega) (by rw [c4]; omega), c4]
    have t1 : (i + (1 : Int32)).toInt = i.toInt + 1 := by rw [ti_add (by omega) (by omega), c1]
    rw [f_S_chooseSprites_l1_m_s, f_R_sprite_l1_v_s]; dsimp only
    by_cases h40 : (40 : Int32) ≤ i
    · have k160 : (160 : Int32) ≤ (4 : Int32) * i := by rw [ti_le] at *; omega
      rw [if_pos h40, if_pos k160]; exact hI
    have k160 : ¬ (160 : Int32) ≤ (4 : Int32) * i := by rw [ti_le] at *; omega
    rw [if_neg h40, if_neg k160]
    rw [ti_le] at h40
    by_cases h10' : (10 : Int32) ≤ ch
    · rw [if_pos h10', if_pos h10']; exact hI
    rw [if_neg h10', if_neg h10', if_neg l2]
    have e4 : ((4 : Int32) * i) + (4 : Int32) = (4 : Int32) * (i + (1 : Int32)) := by
      apply ti_inj
      have m5 : ((4 : Int32) * (i + (1 : Int32))).toInt = 4 * (i + (1 : Int32)).toInt := by rw [ti_mul (by rw [c4]; omega) (by rw [c4]; omega), c4]
      rw [ti_add (by omega) (by omega), m4, m5, t1, c4]; omega
    -- on to the next sprite
    have nx : ∀ (ch' b' : Int32) (M' : Mem), M' 9 = N 3 → M' 10 = S → Iv S M' y h j b' → Iv S (f_S_chooseSprites_j3_m i (f_S_chooseSprites_l1_m y h n) ch' M') y h j (f_R_sprite_j3_v ((4 : Int32) * i) (f_R_sprite_l1_v N (nI j) y h n) ch' b') := by
      intro ch' b' M' g9 g10 gI
      unfold f_S_chooseSprites_j3_m f_R_sprite_j3_v; dsimp only
      rw [e4]
      exact ih ch' b' (i + (1 : Int32)) M' g9 g10 (by omega) (by omega) (by omega) gI
    rw [h10, hS]
    generalize ht : y - ((S ((4 : Int32) * i).toNatClampNeg) - (16 : Int32)) = t
    by_cases g1 : t < 0
    · rw [if_pos g1, if_pos g1]; exact nx _ _ _ h9 h10 hI
    rw [if_neg g1, if_neg g1]
    by_cases g2 : h ≤ t
    · have g2' : ¬ t < h := by rw [ti_lt]; rw [ti_le] at g2; omega
      rw [if_pos g2, if_neg g2']; exact nx _ _ _ h9 h10 hI
    have g2' : t < h := by rw [ti_lt]; rw [ti_le] at g2; omega
    rw [if_neg g2, if_pos g2']
    rw [ti_lt] at g1 g2'
    have hk0 : ¬ ((4 : Int32) * i) < 0 := by rw [ti_lt]; omega
    -- the sprite placed
    rw [place_m, h10]
    have ol := oS (((4 : Int32) * i) + (1 : Int32)).toNatClampNeg
    obtain ⟨p1, p2⟩ := place_l (f := S (((4 : Int32) * i) + (3 : Int32)).toNatClampNeg) (p := sPl S ((4 : Int32) * i) t h) ol 9 0 M (by decide) (by decide) (by decide)
    generalize f_S_placeSprite_l1_m (S (((4 : Int32) * i) + (1 : Int32)).toNatClampNeg) (S (((4 : Int32) * i) + (3 : Int32)).toNatClampNeg) (sPl S ((4 : Int32) * i) t h) 9 0 M = R at p1 p2
    have r9 : R 9 = M 9 := p2 9 (by decide)
    have r10 : R 10 = S := (p2 10 (by decide)).trans h10
    have p := p1 j
    have hu : nI j - ((S (((4 : Int32) * i) + (1 : Int32)).toNatClampNeg) - (8 : Int32)) = pU (S (((4 : Int32) * i) + (1 : Int32)).toNatClampNeg) j := rfl
    rw [hu]
    have keep : ¬ pOn M (S (((4 : Int32) * i) + (3 : Int32)).toNatClampNeg) (sPl S ((4 : Int32) * i) t h) (S (((4 : Int32) * i) + (1 : Int32)).toNatClampNeg) 0 j → Iv S R y h j b := fun hn => hI.c r9 (fun k _ => p.2 hn k)
    have hpn : pNum M (S (((4 : Int32) * i) + (3 : Int32)).toNatClampNeg) (sPl S ((4 : Int32) * i) t h) (S (((4 : Int32) * i) + (1 : Int32)).toNatClampNeg) j = f_S_numberAt_v M (sPl S ((4 : Int32) * i) t h) (sBit S ((4 : Int32) * i) (pU (S (((4 : Int32) * i) + (1 : Int32)).toNatClampNeg) j)) := rfl
    by_cases u1 : pU (S (((4 : Int32) * i) + (1 : Int32)).toNatClampNeg) j < 0
    · rw [if_pos u1]; rw [ti_lt] at u1
      exact nx _ _ _ (r9.trans h9) r10 (keep (fun x => by have := x.2.1; omega))
    rw [if_neg u1]
    by_cases u2 : (7 : Int32) < pU (S (((4 : Int32) * i) + (1 : Int32)).toNatClampNeg) j
    · rw [if_pos u2]; rw [ti_lt] at u2
      exact nx _ _ _ (r9.trans h9) r10 (keep (fun x => by have := x.2.2.1; omega))
    rw [if_neg u2]
    rw [ti_lt] at u1 u2
    have hnum := num_s2 (k := (4 : Int32) * i) (t := t) (c := pU (S (((4 : Int32) * i) + (1 : Int32)).toNatClampNeg) j) (h := h) h9 hS oS hh ⟨by omega, g2'⟩ ⟨by omega, by omega⟩
    rw [hnum]
    by_cases z : f_S_numberAt_v M (sPl S ((4 : Int32) * i) t h) (sBit S ((4 : Int32) * i) (pU (S (((4 : Int32) * i) + (1 : Int32)).toNatClampNeg) j)) = 0
    · rw [if_pos z]
      exact nx _ _ _ (r9.trans h9) r10 (keep (fun x => x.2.2.2.1 (hpn.trans z)))
    rw [if_neg z]
    -- seen: it becomes the one
    have new : (M 14 j = 0 ∨ S (((4 : Int32) * i) + (1 : Int32)).toNatClampNeg < M 15 j) → Iv S R y h j ((4 : Int32) * i) := by
      intro hor
      obtain ⟨q1, q2, q3⟩ := p.1 ⟨hj, by omega, by omega, fun e => z (hpn.symm.trans e), hor⟩
      refine Or.inr ⟨hk0, ?_, ⟨by omega, by omega⟩, ?_, ?_, q2, q3⟩
      · rw [ht]; exact ⟨by omega, g2'⟩
      · rw [ht, nA_c r9, q1, hpn]
      · rw [q1, hpn]; exact z
    rcases hI with ⟨b0, m0⟩ | ⟨b0, -, -, -, m0, m15, -⟩
    · rw [if_pos b0]
      exact nx _ _ _ (r9.trans h9) r10 (new (Or.inl m0))
    · rw [if_neg b0]
      by_cases le : S ((b + (1 : Int32))).toNatClampNeg ≤ S (((4 : Int32) * i) + (1 : Int32)).toNatClampNeg
      · rw [if_pos le]
        refine nx _ _ _ (r9.trans h9) r10 (keep (fun x => ?_))
        rcases x.2.2.2.2 with x | x
        · exact m0 x
        · rw [m15, ti_lt] at x; rw [ti_le] at le; omega
      · rw [if_neg le]
        exact nx _ _ _ (r9.trans h9) r10 (new (Or.inr (by rw [m15, ti_lt]; rw [ti_le] at le; omega)))
theorem choose_f {S : Nat → Int32} (oS : ∀ i : Nat, oct (S i)) {y h : Int32} : ∀ (n : Nat) (ch i : Int32) (M : Mem), M 10 = S → 0 ≤ i.toInt → i.toInt ≤ 40 → 40 < i.toInt + n → ∀ k : Nat, ¬ (k = 14 ∨ k = 15 ∨ k = 16) → f_S_chooseSprites_l1_m y h n ch i M k = M k := by
  intro n
  induction n with
  | zero => intro ch i M h10 h1 h2 h3; omega
  | succ n ih =>
    intro ch i M h10 h1 h2 h3 k hk
    have c1 : (1 : Int32).toInt = 1 := by decide
    have c40 : (40 : Int32).toInt = 40 := by decide
    have t1 : (i + (1 : Int32)).toInt = i.toInt + 1 := by rw [ti_add (by omega) (by omega), c1]
    rw [f_S_chooseSprites_l1_m_s]; (try dsimp only)
    by_cases h40 : (40 : Int32) ≤ i
    · rw [if_pos h40]; rfl
    rw [if_neg h40]
    rw [ti_le] at h40
    by_cases h10' : (10 : Int32) ≤ ch
    · rw [if_pos h10']; rfl
    rw [if_neg h10']
    have nx : ∀ (ch' : Int32) (M' : Mem), (∀ k : Nat, ¬ (k = 14 ∨ k = 15 ∨ k = 16) → M' k = M k) → f_S_chooseSprites_j3_m i (f_S_chooseSprites_l1_m y h n) ch' M' k = M k := by
      intro ch' M' g
      unfold f_S_chooseSprites_j3_m; (try dsimp only)
      exact (ih ch' (i + (1 : Int32)) M' ((g 10 (by decide)).trans h10) (by omega) (by omega) (by omega) k hk).trans (g k hk)
    generalize y - ((M 10 ((4 : Int32) * i).toNatClampNeg) - (16 : Int32)) = t
    by_cases g1 : t < 0
    · rw [if_pos g1]; exact nx _ _ (fun _ _ => rfl)
    rw [if_neg g1]
    by_cases g2 : h ≤ t
    · rw [if_pos g2]; exact nx _ _ (fun _ _ => rfl)
    rw [if_neg g2, place_m, h10]
    exact nx _ _ (place_l (oS _) 9 0 M (by decide) (by decide) (by decide)).2
