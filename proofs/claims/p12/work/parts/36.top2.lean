/-! write, rom, insert, run: both sides. -/
theorem wv_T {a1 a2 : Int32} {a3 : Int64} : ∀ (n : Nat) (x : Int32) (M : Mem), ok_T_write_l1 a1 a2 a3 n x M → f_T_write_l1_v a1 a2 a3 n x M = a2 := by
  intro n; induction n with
  | zero => intro x M h; exact False.elim h
  | succ n ih =>
    intro x M h
    rw [f_T_write_l1_v_s]; dsimp only
    by_cases hc : a2 ≤ x
    · rw [if_pos hc]
    · rw [if_neg hc]; exact ih _ _ ((h.2 hc _ rfl).2 _ rfl _ rfl)
theorem wv_R {a1 a2 : Int32} {a3 : Int64} : ∀ (n : Nat) (x : Int32) (M : Mem), ok_R_write_l1 a1 a2 a3 n x M → f_R_write_l1_v a1 a2 a3 n x M = a2 := by
  intro n; induction n with
  | zero => intro x M h; exact False.elim h
  | succ n ih =>
    intro x M h
    rw [f_R_write_l1_v_s]; dsimp only
    by_cases hc : a2 ≤ x
    · rw [if_pos hc]
    · rw [if_neg hc]; exact ih _ _ ((h.2 hc).2 _ rfl _ rfl)
theorem wT_write {M : Mem} {a k : Int32} {w : Int64} {Q : Int32 → Mem → Prop} (h1 : ¬ k < (1 : Int32)) (h2 : k ≤ (8 : Int32)) (h3 : ¬ a < 0) (h4 : a ≤ (65536 : Int32) - k) (hok : ok_T_write_l1 a k w 9 (0 : Int32) M) (hQ : Q k (f_T_write_l1_m a k w 9 (0 : Int32) M)) : wp_T_write M a k w Q := by
  refine sp_T_write M a k w Q ⟨fun h => absurd h h1, fun _ => ⟨fun _ => ⟨fun h => absurd h h3, fun _ => ⟨fun _ => hok, fun h => absurd h4 h⟩⟩, fun h => absurd h2 h⟩⟩ ?_
  unfold f_T_write_v f_T_write_m
  rw [if_neg h1, if_pos h2, if_neg h3, if_pos h4, if_neg h1, if_pos h2, if_neg h3, if_pos h4, wv_T _ _ _ hok]; exact hQ
theorem wX_write {M : Mem} {a k : Int32} {w : Int64} {Q : Nat → Mem → Prop} (h : k < (1 : Int32) ∨ ¬ k ≤ (8 : Int32) ∨ a < 0 ∨ ¬ a ≤ (65536 : Int32) - k) (hQ : Q 0 M) : wp_TX_write M a k w Q := by
  by_cases h1 : k < (1 : Int32)
  · refine sp_TX_write M a k w Q ⟨fun _ => trivial, fun h => absurd h1 h⟩ ?_
    unfold f_TX_write_v f_TX_write_m f_TX_write_j1_v f_TX_write_j1_m; rw [if_pos h1, if_pos h1]; exact hQ
  by_cases h2 : k ≤ (8 : Int32)
  · by_cases h3 : a < 0
    · refine sp_TX_write M a k w Q ⟨fun h => absurd h h1, fun _ => ⟨fun _ => ⟨fun _ => trivial, fun h => absurd h3 h⟩, fun h => absurd h2 h⟩⟩ ?_
      unfold f_TX_write_v f_TX_write_m f_TX_write_j2_v f_TX_write_j2_m; rw [if_neg h1, if_pos h2, if_pos h3, if_neg h1, if_pos h2, if_pos h3]; exact hQ
    · have h4 : ¬ a ≤ (65536 : Int32) - k := by
        rcases h with h | h | h | h
        · exact absurd h h1
        · exact absurd h2 h
        · exact absurd h h3
        · exact h
      refine sp_TX_write M a k w Q ⟨fun h => absurd h h1, fun _ => ⟨fun _ => ⟨fun h => absurd h h3, fun _ => ⟨fun h => absurd h h4, fun _ => trivial⟩⟩, fun h => absurd h2 h⟩⟩ ?_
      unfold f_TX_write_v f_TX_write_m f_TX_write_j2_v f_TX_write_j2_m; rw [if_neg h1, if_pos h2, if_neg h3, if_neg h4, if_neg h1, if_pos h2, if_neg h3, if_neg h4]; exact hQ
  · refine sp_TX_write M a k w Q ⟨fun h => absurd h h1, fun _ => ⟨fun h => absurd h h2, fun _ => trivial⟩⟩ ?_
    unfold f_TX_write_v f_TX_write_m f_TX_write_j1_v f_TX_write_j1_m; rw [if_neg h1, if_neg h2, if_neg h1, if_neg h2]; exact hQ
theorem wR_write {N : Mem} {a k : Int32} {w : Int64} {Q : Int32 → Mem → Prop} (h1 : ¬ k < (1 : Int32)) (h2 : ¬ (8 : Int32) < k) (h3 : ¬ a < 0) (h4 : ¬ (65536 : Int32) - k < a) (hok : ok_R_write_l1 a k w 9 (0 : Int32) (E0 N)) (hQ : Q k (f_R_write_l1_m a k w 9 (0 : Int32) (E0 N))) : wp_R_write N a k w Q := by
  refine sp_R_write N a k w Q ?_ ?_
  · simp only [ok_R_write, ok_R_write_j1, ok_R_write_j3, forall_eq, ok_in, ok_fl, in1 h1 h2, in1 h3 h4, flv0 (E0_0 N), flm0, one_ne, not_false_eq_true, not_true_eq_false, true_and, forall_const, false_implies, and_true, hok]
  · simp only [f_R_write_v, f_R_write_m, f_R_write_j1_v, f_R_write_j1_m, f_R_write_j3_v, f_R_write_j3_m, in1 h1 h2, in1 h3 h4, flv0 (E0_0 N), flm0, one_ne, if_false, if_true, wv_R _ _ _ hok]; exact hQ
theorem wRx_write {N : Mem} {a k : Int32} {w : Int64} {Q : Int32 → Mem → Prop} (h : (k < (1 : Int32) ∨ (8 : Int32) < k) ∨ (a < 0 ∨ (65536 : Int32) - k < a)) (hQ : Q 0 (mst (E0 N) 0 0 1)) : wp_R_write N a k w Q := by
  by_cases h1 : k < (1 : Int32) ∨ (8 : Int32) < k
  · refine sp_R_write N a k w Q ?_ ?_
    · simp only [ok_R_write, ok_R_write_j1, ok_R_write_j3, forall_eq, ok_in, ok_fl, in0 h1, flv1 (E0_0 N) (c := 1) (by decide), one_ne, not_false_eq_true, not_true_eq_false, true_and, forall_const, false_implies, and_true]
    · simp only [f_R_write_v, f_R_write_m, f_R_write_j1_v, f_R_write_j1_m, f_R_write_j2_v, f_R_write_j2_m, in0 h1, flv1 (E0_0 N) (c := 1) (by decide), flm1 (E0_0 N), one_ne, if_false, if_true]; exact hQ
  · have h2 : a < 0 ∨ (65536 : Int32) - k < a := by
      rcases h with h | h
      · exact absurd h h1
      · exact h
    have h3 : ¬ k < (1 : Int32) := fun x => h1 (Or.inl x)
    have h4 : ¬ (8 : Int32) < k := fun x => h1 (Or.inr x)
    refine sp_R_write N a k w Q ?_ ?_
    · simp only [ok_R_write, ok_R_write_j1, ok_R_write_j3, forall_eq, ok_in, ok_fl, in1 h3 h4, in0 h2, flv0 (E0_0 N), flm0, flv1 (E0_0 N) (c := 1) (by decide), one_ne, not_false_eq_true, not_true_eq_false, true_and, forall_const, false_implies, and_true]
    · simp only [f_R_write_v, f_R_write_m, f_R_write_j1_v, f_R_write_j1_m, f_R_write_j2_v, f_R_write_j2_m, f_R_write_j3_v, f_R_write_j3_m, in1 h3 h4, in0 h2, flv0 (E0_0 N), flm0, flv1 (E0_0 N) (c := 1) (by decide), flm1 (E0_0 N), one_ne, if_false, if_true]; exact hQ
-- rom
theorem SC.rom {d : Int32} {ρ : Nat → Int32} {M : Mem} {k : Nat} {v : Int32} (h : SC d ρ M) : SC d (upd ρ k v) (mst M 6 k v) := by
  refine ⟨?_, ?_, ?_, ?_, ?_⟩
  · rw [mst_no (by decide)]; exact h.1
  · rw [mst_no (by decide)]; exact h.2.1
  · rw [mst_no (by decide)]; exact h.2.2.1
  · rw [mst_no (by decide)]; exact h.2.2.2.1
  · show (if (6 : Nat) = 6 then upd (M 6) k v else M 6) = _; rw [if_pos rfl, h.2.2.2.2]
theorem SR.rom {d : Int32} {ρ : Nat → Int32} {M : Mem} {k : Nat} {v : Int32} (h : SR d ρ M) (hv : oct v) : SR d (upd ρ k v) (mst M 1 k v) := by
  refine ⟨fun c' k' h1 h2 => ?_, fun k' => ?_, fun k' => ?_, ?_, ?_⟩
  · unfold mst upd; split
    · show oct (if k' = k then v else M 1 k'); split
      · exact hv
      · exact h.1 1 k' (by omega) (by omega)
    · exact h.1 c' k' h1 h2
  · rw [mst_no (by decide)]; exact h.2.1 k'
  · rw [mst_no (by decide)]; exact h.2.2.1 k'
  · rw [mst_no (by decide)]; exact h.2.2.2.1
  · show (if (1 : Nat) = 1 then upd (M 1) k v else M 1) = _; rw [if_pos rfl, h.2.2.2.2]
theorem oc_eq (M : Mem) (w : Int64) (x : Int32) : f_T_octetOf_v M w x = ((w.toUInt64 >>> (((8 : Int32) * x).toInt64.toUInt64 &&& Int64.toUInt64 63)).toInt64 &&& (255 : Int64)).toInt32 := by
  unfold f_T_octetOf_v
  generalize (w.toUInt64 >>> (((8 : Int32) * x).toInt64.toUInt64 &&& Int64.toUInt64 63)).toInt64 = y
  apply Int32.toBitVec_inj.mp
  rw [Int32.toBitVec_and, Int64.toBitVec_toInt32, Int64.toBitVec_toInt32, BitVec.signExtend_eq_setWidth_of_le _ (by decide), BitVec.signExtend_eq_setWidth_of_le _ (by decide), Int64.toBitVec_and]
  apply BitVec.eq_of_toNat_eq
  rw [BitVec.toNat_and, BitVec.toNat_setWidth, BitVec.toNat_setWidth, BitVec.toNat_and]
  show y.toBitVec.toNat % 2 ^ 32 &&& 255 = (y.toBitVec.toNat &&& 255) % 2 ^ 32
  rw [show (255 : Nat) = 2 ^ 8 - 1 from rfl, Nat.and_two_pow_sub_one_eq_mod, Nat.and_two_pow_sub_one_eq_mod]
  omega
theorem rom_ix {b a x : Int32} (hb : 0 ≤ b.toInt ∧ b.toInt < 8) (ha : 0 ≤ a.toInt) (hx : 0 ≤ x.toInt) (h : a.toInt + x.toInt < 1024) : vp_in (((b * (1024 : Int32)) + a) + x) 8192 := by
  have h3 : (1024 : Int32).toInt = 1024 := by decide
  have h4 : (b * (1024 : Int32)).toInt = b.toInt * 1024 := by rw [ti_mul (by rw [h3]; omega) (by rw [h3]; omega), h3]
  have h5 : ((b * (1024 : Int32)) + a).toInt = b.toInt * 1024 + a.toInt := by rw [ti_add (by omega) (by omega), h4]
  rw [vp_iff, ti_add (by omega) (by omega)]; omega
theorem rom_loop {b a k : Int32} {w : Int64} (hb : 0 ≤ b.toInt ∧ b.toInt < 8) (ha : 0 ≤ a.toInt) (hk : k.toInt ≤ 8) (hak : a.toInt + k.toInt ≤ 1024) : ∀ (n : Nat) (d : Int32) (ρ : Nat → Int32) (x : Int32) (M N : Mem), 0 ≤ x.toInt → x.toInt ≤ 8 → 8 < x.toInt + n → SC d ρ M → SR d ρ N →
    (ok_T_rom_l1 b a k w n x M ∧ ok_R_rom_l1 b a k w n x N ∧ f_T_rom_l1_v b a k w n x M = k ∧ f_R_rom_l1_v b a k w n x N = k ∧ (∃ ρ', SC d ρ' (f_T_rom_l1_m b a k w n x M) ∧ SR d ρ' (f_R_rom_l1_m b a k w n x N)) ∧ (∀ i j, ¬ i = 6 → f_T_rom_l1_m b a k w n x M i j = M i j) ∧ (∀ i j, ¬ i = 1 → f_R_rom_l1_m b a k w n x N i j = N i j)) := by
  intro n
  induction n with
  | zero => intro d ρ x M N h1 h2 h3; exact absurd h3 (by omega)
  | succ n ih =>
    intro d ρ x M N h1 h2 h3 sM sN
    rw [f_T_rom_l1_v_s, f_T_rom_l1_m_s, f_R_rom_l1_v_s, f_R_rom_l1_m_s]; dsimp only
    by_cases hc : k ≤ x
    · rw [if_pos hc, if_pos hc, if_pos hc, if_pos hc]
      exact ⟨⟨fun _ => trivial, fun h => absurd hc h⟩, ⟨fun _ => trivial, fun h => absurd hc h⟩, rfl, rfl, ⟨ρ, sM, sN⟩, fun _ _ _ => rfl, fun _ _ _ => rfl⟩
    · rw [if_neg hc, if_neg hc, if_neg hc, if_neg hc]
      have hc' : x.toInt < k.toInt := by rw [ti_le] at hc; omega
      have hin := rom_ix (x := x) hb ha h1 (by omega)
      have hcm : ((1024 : Int32) * b + a) + x = ((b * (1024 : Int32)) + a) + x := by rw [Int32.mul_comm]
      have h7 : (x + (1 : Int32)).toInt = x.toInt + 1 := by rw [ti_add (by have : (1 : Int32).toInt = 1 := by decide
                                                                           omega) (by have : (1 : Int32).toInt = 1 := by decide
                                                                                      omega)]; rfl
      rw [hcm, ← oc_eq M w x]
      have ho : oct (f_T_octetOf_v M w x) := by rw [oc_eq]; exact l255
      obtain ⟨r1, r2, r3, r4, r5, r6, r7⟩ := ih d _ (x + (1 : Int32)) _ _ (by omega) (by omega) (by omega) (SC.rom (k := ((b * (1024 : Int32) + a) + x).toNatClampNeg) (v := f_T_octetOf_v M w x) sM) (SR.rom (k := ((b * (1024 : Int32) + a) + x).toNatClampNeg) (v := f_T_octetOf_v M w x) sN ho)
      refine ⟨⟨fun h => absurd h hc, fun _ x38 e38 => ?_⟩, ⟨fun h => absurd h hc, fun _ => ?_⟩, r3, r4, r5, fun i j hi => (r6 i j hi).trans (by rw [mst_no hi]), fun i j hi => (r7 i j hi).trans (by rw [mst_no hi])⟩
      · subst e38; exact ⟨hin, fun M39 e39 x40 e40 => by subst e39; subst e40; exact r1⟩
      · rw [hcm, ← oc_eq M w x]; exact ⟨hin, fun M39 e39 x40 e40 => by subst e39; subst e40; exact r2⟩
