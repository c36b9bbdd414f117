/-! write, rom, keys keep the relation. -/
theorem oct_eq (M : Mem) (w : Int64) (x : Int32) : f_T_octetOf_v M w x = ((w.toUInt64 >>> (((8 : Int32) * x).toInt64.toUInt64 &&& Int64.toUInt64 63)).toInt64 &&& (255 : Int64)).toInt32 ∧ oct (((w.toUInt64 >>> (((8 : Int32) * x).toInt64.toUInt64 &&& Int64.toUInt64 63)).toInt64 &&& (255 : Int64)).toInt32) := ⟨oc_eq M w x, l255⟩
theorem write_z {d : Int32} {ρ : Nat → Int32} {a k : Int32} {w : Int64} (ha : 0 ≤ a.toInt) (hk : k.toInt ≤ 8) (hak : a.toInt + k.toInt ≤ 65536) : ∀ (n : Nat) (x : Int32) (M N : Mem), 0 ≤ x.toInt → x.toInt ≤ 8 → 8 < x.toInt + n → RZ d ρ M N → RZ d ρ (f_T_write_l1_m a k w n x M) (f_R_write_l1_m a k w n x N) := by
  intro n
  induction n with
  | zero => intro x M N h1 h2 h3; exact absurd h3 (by omega)
  | succ n ih =>
    intro x M N h1 h2 h3 hz
    rw [f_T_write_l1_m_s, f_R_write_l1_m_s]; dsimp only
    by_cases hc : k ≤ x
    · rw [if_pos hc, if_pos hc]; exact hz
    · rw [if_neg hc, if_neg hc]
      have hx : x.toInt < k.toInt := by rw [ti_le] at hc; omega
      have h7 := a1_ti (a := x) (by omega)
      have h8 : (a + x).toInt = a.toInt + x.toInt := ti_add (by omega) (by omega)
      have e := oct_eq M w x
      refine ih _ _ _ (by omega) (by omega) (by omega) ?_
      rw [e.1]; exact hz.st ⟨by omega, by omega⟩ e.2
theorem rom_z {d : Int32} {ρ ρ' : Nat → Int32} {M N M' N' : Mem} (h : RZ d ρ M N) (sM : SC d ρ' M') (sN' : SR d ρ' N') (hM : ∀ i j : Nat, ¬ i = 6 → M' i j = M i j) (hN : ∀ i j : Nat, ¬ i = 1 → N' i j = N i j) : RZ d ρ' M' N' := by
  have cM : ∀ i : Nat, ¬ i = 6 → M' i = M i := fun i hi => funext fun j => hM i j hi
  have cN : ∀ i : Nat, ¬ i = 1 → N' i = N i := fun i hi => funext fun j => hN i j hi
  obtain ⟨⟨hm, ⟨g1, g2, g3⟩, sN, fz, dr, hd⟩, ⟨q1, q2, q3, q4, q5⟩, hb, hi⟩ := h
  obtain ⟨hA, hC, hP⟩ := hm
  refine ⟨⟨⟨?_, hC.c (cM 1 (by decide)) (fun j _ _ => hN 0 j (by decide)), hP.c (cM 8 (by decide)) (cM 2 (by decide)) (fun j _ => hN 0 j (by decide))⟩, ⟨?_, ?_, ?_⟩, sN', ?_, ?_, hd⟩, ⟨?_, ?_, ?_, ?_, ?_⟩, ?_, ?_⟩
  · obtain ⟨a1, a2, a3, a4, a5, a6⟩ := hA
    refine ⟨sM.2.2.2.2.trans sN'.2.2.2.2.symm, ?_, ?_, ?_, ?_, ?_⟩
    · rw [cM 7 (by decide), cN 2 (by decide)]; exact a2
    · rw [cM 9 (by decide), cN 3 (by decide)]; exact a3
    · rw [cM 11 (by decide), cN 4 (by decide)]; exact a4
    · rw [cM 10 (by decide), cN 5 (by decide)]; exact a5
    · rw [cM 12 (by decide), cN 6 (by decide)]; exact a6
  · rw [cM 17 (by decide), cN 8 (by decide)]; exact g1
  · rw [cM 5 (by decide), cN 0 (by decide)]; exact g2
  · rw [cM 5 (by decide), cN 0 (by decide)]; exact g3
  · unfold FZ; rw [cN 8 (by decide)]; exact fz
  · unfold DR; rw [cN 0 (by decide)]; exact dr
  · rw [cM 13 (by decide), cN 7 (by decide)]; exact q1
  · rw [cM 5 (by decide), cN 0 (by decide)]; exact q2
  · rw [cM 5 (by decide), cN 0 (by decide)]; exact q3
  · rw [cM 5 (by decide), cN 0 (by decide)]; exact q4
  · rw [cM 5 (by decide), cN 0 (by decide)]; exact q5
  · rw [cN 0 (by decide)]; exact hb
  · unfold IM at hi ⊢; rw [cM 5 (by decide), cN 0 (by decide)]; exact hi
theorem SR.e0 {d : Int32} {ρ : Nat → Int32} {N : Mem} (h : SR d ρ N) : SR d ρ (E0 N) := SR.sf h (by decide) (any_rng _)
theorem SR.x {d : Int32} {ρ : Nat → Int32} {N : Mem} (h : SR d ρ N) (c : Int32) : SR d ρ (mst (E0 N) 0 0 c) := SR.sf h.e0 (by decide) (any_rng _)
theorem SC.press {d : Int32} {ρ : Nat → Int32} {M : Mem} (h : SC d ρ M) (a : Int32) : SC a ρ (f_P_press_m M a) := by
  have h1 : SC a ρ (mst M 2 2 a) := by
    unfold SC; rw [mst_no (by decide), mst_eq, mst_no (by decide)]; exact ⟨h.1, h.2.1, h.2.2.1, rfl, h.2.2.2.2⟩
  unfold f_P_press_m f_P_press_j1_m; dsimp only; split
  · exact h1
  · exact SC.sa h1 (by decide)
theorem press_v (M : Mem) (a : Int32) : f_P_press_v M a = M 2 2 := by
  unfold f_P_press_v f_P_press_j1_v; dsimp only; split <;> rfl
theorem SR.key {d : Int32} {ρ : Nat → Int32} {N : Mem} (h : SR d ρ N) (a : Int32) : SR a ρ (mst N 0 25 a) := by
  refine ⟨fun c' k' h1 h2 => ?_, fun k' => ?_, fun k' => ?_, ?_, ?_⟩
  · rw [mst_no (by omega)]; exact h.1 c' k' h1 h2
  · rw [mst_no (by omega)]; exact h.2.1 k'
  · by_cases e : k' = 25
    · subst e; rw [mst_eq]; exact any_rng _
    · rw [mst_ne e]; exact h.2.2.1 k'
  · rw [mst_eq]
  · rw [mst_no (by decide)]; exact h.2.2.2.2
theorem keysR_e (N : Mem) (a : Int32) : keysR (E0 N) a 0 0 = 0 := by
  unfold keysR; split
  · exact er_mst (E0_0 N) (Or.inr (by decide))
  · exact er_mst (er_mst (E0_0 N) (Or.inr (by decide))) (Or.inr (by decide))
theorem key1 {d : Int32} {ρ : Nat → Int32} {M N : Mem} (h : RZ d ρ M N) {a : Int32} (ha : oct a) : RZ a ρ (mst M 2 2 a) (mst N 0 25 a) := by
  obtain ⟨⟨hm, ⟨g1, g2, g3⟩, sN, fz, dr, hd⟩, ⟨q1, q2, q3, q4, q5⟩, hb, hi⟩ := h
  obtain ⟨hA, hC, hP⟩ := hm
  refine ⟨⟨⟨hA.c (fun c hc => mst_no (by omega)) (fun c h1 _ => mst_no (by omega)), hC.c (mst_no (by decide)) (fun j h1 h2 => mst_ne (by omega)), hP.up (by decide) (by decide) a⟩, ⟨?_, ?_, ?_⟩, SR.key sN a, ?_, dr.n (Or.inr (by decide)) _, ha⟩, ⟨?_, ?_, ?_, ?_, ?_⟩, ?_, ?_⟩
  · rw [mst_no (by decide), mst_no (by decide)]; exact g1
  · rw [mst_no (by decide), mst_ne (by decide)]; exact g2
  · rw [mst_no (by decide), mst_ne (by decide)]; exact g3
  · unfold FZ; rw [mst_no (by decide)]; exact fz
  · rw [mst_no (by decide), mst_no (by decide)]; exact q1
  · rw [mst_no (by decide), mst_ne (by decide)]; exact q2
  · rw [mst_no (by decide), mst_ne (by decide)]; exact q3
  · rw [mst_no (by decide), mst_ne (by decide)]; exact q4
  · rw [mst_no (by decide), mst_ne (by decide)]; exact q5
  · rw [mst_ne (by decide)]; exact hb
  · unfold IM at hi ⊢; rw [mst_ne (by decide), mst_ne (by decide), mst_ne (by decide), mst_no (by decide)]; exact hi
theorem key2 {d : Int32} {ρ : Nat → Int32} {M N : Mem} (h : RZ d ρ M N) : RZ d ρ (mst M 8 15 ((M 8 15) ||| (16 : Int32))) (mst N 0 31 ((N 0 31) ||| (16 : Int32))) := by
  have e8 : M 8 15 = N 0 31 := h.1.1.2.2.g (by decide)
  rw [e8]
  have hv := f31 (h.1.2.2.1.f 31) (16 : Int32) (by decide)
  generalize (N 0 31) ||| (16 : Int32) = v at hv ⊢
  obtain ⟨⟨hm, ⟨g1, g2, g3⟩, sN, fz, dr, hd⟩, ⟨q1, q2, q3, q4, q5⟩, hb, hi⟩ := h
  obtain ⟨hA, hC, hP⟩ := hm
  refine ⟨⟨⟨hA.c (fun c hc => mst_no (by omega)) (fun c h1 _ => mst_no (by omega)), hC.c (mst_no (by decide)) (fun j h1 h2 => mst_ne (by omega)), hP.up (by decide) (by decide) v⟩, ⟨?_, ?_, ?_⟩, SR.sf sN (by decide) hv, ?_, dr.n (Or.inr (by decide)) _, hd⟩, ⟨?_, ?_, ?_, ?_, ?_⟩, ?_, ?_⟩
  · rw [mst_no (by decide), mst_no (by decide)]; exact g1
  · rw [mst_no (by decide), mst_ne (by decide)]; exact g2
  · rw [mst_no (by decide), mst_ne (by decide)]; exact g3
  · unfold FZ; rw [mst_no (by decide)]; exact fz
  · rw [mst_no (by decide), mst_no (by decide)]; exact q1
  · rw [mst_no (by decide), mst_ne (by decide)]; exact q2
  · rw [mst_no (by decide), mst_ne (by decide)]; exact q3
  · rw [mst_no (by decide), mst_ne (by decide)]; exact q4
  · rw [mst_no (by decide), mst_ne (by decide)]; exact q5
  · rw [mst_ne (by decide)]; exact hb
  · unfold IM at hi ⊢; rw [mst_ne (by decide), mst_ne (by decide), mst_ne (by decide), mst_no (by decide)]; exact hi
theorem keys_z {d : Int32} {ρ : Nat → Int32} {M N : Mem} (h : RZ d ρ M N) {a : Int32} (ha : oct a) : RZ a ρ (f_P_press_m M a) (keysR N a) ∧ f_P_press_v M a = N 0 25 := by
  have e : M 2 2 = N 0 25 := h.1.1.2.2.g (by decide)
  refine ⟨?_, (press_v M a).trans e⟩
  unfold f_P_press_m f_P_press_j1_m keysR; dsimp only
  rw [e]
  split
  · exact key1 h ha
  · have z := key2 (key1 h ha)
    rw [mst_ne (c := 0) (by decide), mst_comm (c := 0) (by decide)] at z
    exact z
