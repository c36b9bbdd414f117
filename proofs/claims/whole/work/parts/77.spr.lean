/-! Sprites on a row: what placeSprite leaves. -/
def pBit (f c : Int32) : Int32 := if (f &&& (32 : Int32)) = 0 then (7 : Int32) - c else c
/-- the column of a sprite at a place of the row -/
def pU (l : Int32) (j : Nat) : Int32 := nI j - (l - (8 : Int32))
def pNum (M : Mem) (f p l : Int32) (j : Nat) : Int32 := f_S_numberAt_v M p (pBit f (pU l j))
def pOn (M : Mem) (f p l c : Int32) (j : Nat) : Prop := j < 160 ∧ c.toInt ≤ (pU l j).toInt ∧ (pU l j).toInt < 8 ∧ ¬ pNum M f p l j = 0 ∧ (M 14 j = 0 ∨ l < M 15 j)
theorem nA_c {M M' : Mem} (h : M' 9 = M 9) (p b : Int32) : f_S_numberAt_v M' p b = f_S_numberAt_v M p b := by
  unfold f_S_numberAt_v; rw [h]
theorem nI_ti {j : Nat} (h : j < 160) : (nI j).toInt = j := by
  have h9 : ∀ i : Fin 160, (nI i.val).toInt = (i.val : Int) := by decide +kernel
  exact h9 ⟨j, h⟩
theorem pU_ti {l : Int32} (hl : oct l) {j : Nat} (h : j < 160) : (pU l j).toInt = j - (l.toInt - 8) := by
  have h1 := hl.1
  have h2 := hl.2
  have c8 : (8 : Int32).toInt = 8 := by decide
  have e1 : (l - (8 : Int32)).toInt = l.toInt - 8 := by rw [ti_sub (by omega) (by omega), c8]
  have e2 := nI_ti h
  unfold pU
  rw [ti_sub (by omega) (by omega), e1, e2]
/-- what is set, what stays -/
def PL (M R : Mem) (f p l c : Int32) (j : Nat) : Prop := (pOn M f p l c j → R 14 j = pNum M f p l j ∧ R 15 j = l ∧ R 16 j = f) ∧ (¬ pOn M f p l c j → ∀ k : Nat, R k j = M k j)
theorem place_l {f p l : Int32} (hl : oct l) : ∀ (n : Nat) (c : Int32) (M : Mem), 0 ≤ c.toInt → c.toInt ≤ 8 → 8 < c.toInt + n → (∀ j : Nat, PL M (f_S_placeSprite_l1_m l f p n c M) f p l c j) ∧ (∀ k : Nat, ¬ (k = 14 ∨ k = 15 ∨ k = 16) → f_S_placeSprite_l1_m l f p n c M k = M k) := by
  intro n
  induction n with
  | zero => intro c M h1 h2 h3; omega
  | succ n ih =>
    intro c M h1 h2 h3
    have hl1 := hl.1
    have hl2 := hl.2
    have c8 : (8 : Int32).toInt = 8 := by decide
    have c1 : (1 : Int32).toInt = 1 := by decide
    have c0 : (0 : Int32).toInt = 0 := by decide
    have c160 : (160 : Int32).toInt = 160 := by decide
    rw [f_S_placeSprite_l1_m_s]; dsimp only
    by_cases h8 : (8 : Int32) ≤ c
    · rw [if_pos h8]
      rw [ti_le] at h8
      exact ⟨fun j => ⟨fun ⟨_, a, b, _⟩ => by omega, fun _ _ => rfl⟩, fun _ _ => rfl⟩
    · rw [if_neg h8]
      rw [ti_le] at h8
      have t1 : (c + (1 : Int32)).toInt = c.toInt + 1 := by rw [ti_add (by omega) (by omega), c1]
      have e1 : (l - (8 : Int32)).toInt = l.toInt - 8 := by rw [ti_sub (by omega) (by omega), c8]
      have e2 : ((l - (8 : Int32)) + c).toInt = l.toInt - 8 + c.toInt := by rw [ti_add (by omega) (by omega), e1]
      -- nothing placed here
      have stay : (∀ j : Nat, j < 160 → (j : Int) = l.toInt - 8 + c.toInt → ¬ pOn M f p l c j) → (∀ j : Nat, PL M (f_S_placeSprite_j4_m c (f_S_placeSprite_l1_m l f p n) M) f p l c j) ∧ (∀ k : Nat, ¬ (k = 14 ∨ k = 15 ∨ k = 16) → f_S_placeSprite_j4_m c (f_S_placeSprite_l1_m l f p n) M k = M k) := by
        intro hno
        unfold f_S_placeSprite_j4_m; dsimp only
        obtain ⟨i1, i2⟩ := ih (c + (1 : Int32)) M (by omega) (by omega) (by omega)
        refine ⟨fun j => ?_, i2⟩
        have iff : pOn M f p l c j ↔ pOn M f p l (c + (1 : Int32)) j := by
          constructor
          · intro h
            have hu := pU_ti hl h.1
            refine ⟨h.1, ?_, h.2.2⟩
            have h22 := h.2.1
            by_cases e : (pU l j).toInt = c.toInt
            · exact absurd h (hno j h.1 (by omega))
            · omega
          · intro h; exact ⟨h.1, by have := h.2.1; omega, h.2.2⟩
        exact ⟨fun h => (i1 j).1 (iff.mp h), fun h => (i1 j).2 (fun x => h (iff.mpr x))⟩
      have main : ∀ b : Int32, b = pBit f c → (∀ j : Nat, PL M (f_S_placeSprite_j3_m l f p c M ((l - (8 : Int32)) + c) (f_S_placeSprite_l1_m l f p n) b) f p l c j) ∧ (∀ k : Nat, ¬ (k = 14 ∨ k = 15 ∨ k = 16) → f_S_placeSprite_j3_m l f p c M ((l - (8 : Int32)) + c) (f_S_placeSprite_l1_m l f p n) b k = M k) := by
        intro b hb
        unfold f_S_placeSprite_j3_m; dsimp only
        by_cases g1 : ((l - (8 : Int32)) + c) < 0
        · rw [if_pos g1]; rw [ti_lt] at g1; exact stay (fun j hj e => by omega)
        rw [if_neg g1]
        by_cases g2 : (160 : Int32) ≤ ((l - (8 : Int32)) + c)
        · rw [if_pos g2]; rw [ti_le] at g2; exact stay (fun j hj e => by omega)
        rw [if_neg g2]
        rw [ti_lt] at g1; rw [ti_le] at g2
        have ec : (((l - (8 : Int32)) + c).toNatClampNeg : Int) = l.toInt - 8 + c.toInt := by rw [ti_clamp (by omega), e2]
        generalize hi : ((l - (8 : Int32)) + c).toNatClampNeg = i at ec
        have i160 : i < 160 := by omega
        have hui := pU_ti hl i160
        have ui : pU l i = c := ti_inj (by omega)
        have hn : pNum M f p l i = f_S_numberAt_v M p b := by unfold pNum; rw [ui, hb]
        have onl : ∀ j : Nat, (j : Int) = l.toInt - 8 + c.toInt → j = i := fun j e => by omega
        by_cases g3 : f_S_numberAt_v M p b = 0
        · rw [if_pos g3]
          exact stay (fun j _ e h => h.2.2.2.1 (by rw [onl j e, hn]; exact g3))
        rw [if_neg g3]
        have put : (M 14 i = 0 ∨ l < M 15 i) → (∀ j : Nat, PL M (f_S_placeSprite_j5_m l f c M ((l - (8 : Int32)) + c) (f_S_numberAt_v M p b) (f_S_placeSprite_l1_m l f p n)) f p l c j) ∧ (∀ k : Nat, ¬ (k = 14 ∨ k = 15 ∨ k = 16) → f_S_placeSprite_j5_m l f c M ((l - (8 : Int32)) + c) (f_S_numberAt_v M p b) (f_S_placeSprite_l1_m l f p n) k = M k) := by
          intro hor
          unfold f_S_placeSprite_j5_m f_S_placeSprite_j4_m; dsimp only
          rw [hi]
          generalize hM' : mst (mst (mst M 14 i (f_S_numberAt_v M p b)) 15 i l) 16 i f = M'
          have oth : ∀ k : Nat, ¬ (k = 14 ∨ k = 15 ∨ k = 16) → M' k = M k := by
            intro k hk; rw [← hM', mst_no (by omega), mst_no (by omega), mst_no (by omega)]
          have oj : ∀ j k : Nat, ¬ j = i → M' k j = M k j := by
            intro j k hj; rw [← hM', mst_ne hj, mst_ne hj, mst_ne hj]
          have v14 : M' 14 i = f_S_numberAt_v M p b := by rw [← hM', mst_no (by decide), mst_no (by decide), mst_eq]
          have v15 : M' 15 i = l := by rw [← hM', mst_no (by decide), mst_eq]
          have v16 : M' 16 i = f := by rw [← hM', mst_eq]
          obtain ⟨i1, i2⟩ := ih (c + (1 : Int32)) M' (by omega) (by omega) (by omega)
          refine ⟨fun j => ?_, fun k hk => (i2 k hk).trans (oth k hk)⟩
          by_cases ej : j = i
          · subst ej
            have off : ¬ pOn M' f p l (c + (1 : Int32)) j := fun h => by have := h.2.1; rw [ui] at this; omega
            have st := (i1 j).2 off
            have on : pOn M f p l c j := ⟨i160, by rw [ui]; omega, by rw [ui]; omega, by rw [hn]; exact g3, hor⟩
            exact ⟨fun _ => ⟨by rw [st, v14, hn], by rw [st, v15], by rw [st, v16]⟩, fun h => absurd on h⟩
          · have nn : pNum M' f p l j = pNum M f p l j := nA_c (oth 9 (by decide)) _ _
            have iff : pOn M' f p l (c + (1 : Int32)) j ↔ pOn M f p l c j := by
              constructor
              · intro h
                have h22 := h.2.1
                exact ⟨h.1, by omega, h.2.2.1, nn ▸ h.2.2.2.1, by rw [← oj j 14 ej, ← oj j 15 ej]; exact h.2.2.2.2⟩
              · intro h
                have hu := pU_ti hl h.1
                have h22 := h.2.1
                exact ⟨h.1, by omega, h.2.2.1, nn.symm ▸ h.2.2.2.1, by rw [oj j 14 ej, oj j 15 ej]; exact h.2.2.2.2⟩
            exact ⟨fun h => by rw [← nn]; exact (i1 j).1 (iff.mpr h), fun h k => ((i1 j).2 (fun x => h (iff.mp x)) k).trans (oj j k ej)⟩
        by_cases g4 : M 14 i = 0
        · rw [if_pos g4]; exact put (Or.inl g4)
        rw [if_neg g4]
        by_cases g5 : M 15 i ≤ l
        · rw [if_pos g5]
          refine stay (fun j _ e h => ?_)
          rw [onl j e] at h
          rcases h.2.2.2.2 with x | x
          · exact g4 x
          · rw [ti_lt] at x; rw [ti_le] at g5; omega
        · rw [if_neg g5]
          exact put (Or.inr (by rw [ti_lt]; rw [ti_le] at g5; omega))
      by_cases hf : (f &&& (32 : Int32)) = 0
      · rw [if_pos hf]; exact main _ (by unfold pBit; rw [if_pos hf])
      · rw [if_neg hf]; exact main _ (by unfold pBit; rw [if_neg hf])
theorem place_m (M : Mem) (k t h : Int32) : f_S_placeSprite_m M k t h = f_S_placeSprite_l1_m (M 10 ((k + (1 : Int32))).toNatClampNeg) (M 10 ((k + (3 : Int32))).toNatClampNeg) (sPl (M 10) k t h) 9 0 M := by
  unfold f_S_placeSprite_m f_S_placeSprite_j1_m f_S_placeSprite_j2_m sPl; dsimp only
  by_cases e6 : ((M 10 ((k + (3 : Int32))).toNatClampNeg) &&& (64 : Int32)) = 0 <;> by_cases e16 : h = 16
  · rw [if_pos e16, if_pos e16, if_pos e6, if_pos e6]
  · rw [if_neg e16, if_neg e16, if_pos e6, if_pos e6]
  · rw [if_pos e16, if_pos e16, if_neg e6, if_neg e6]
  · rw [if_neg e16, if_neg e16, if_neg e6, if_neg e6]
