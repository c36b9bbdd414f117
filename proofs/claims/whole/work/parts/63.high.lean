/-! The other blocks. -/
theorem bit_d : ∀ (j : Fin 256) (y : Fin 8), ((nI j.val &&& ((1 : Int32) <<< (nI y.val &&& (31 : Int32)))) = 0 ↔ ((nI j.val >>> (nI y.val &&& (31 : Int32))) &&& (1 : Int32)) = 0) ∧ oct ((1 : Int32) <<< (nI y.val &&& (31 : Int32))) := by decide +kernel
theorem bitf_d : ∀ (j : Fin 16) (z : Bool), fg 32 1 (fg 64 0 (fg 128 (if z then 1 else 0) (nI (16 * j.val)))) = (((nI (16 * j.val)) &&& (16 : Int32)) ||| (32 : Int32)) ||| (if z then (128 : Int32) else 0) ∧ oct ((((nI (16 * j.val)) &&& (16 : Int32)) ||| (32 : Int32)) ||| (if z then (128 : Int32) else 0)) ∧ (((((nI (16 * j.val)) &&& (16 : Int32)) ||| (32 : Int32)) ||| (if z then (128 : Int32) else 0)) &&& (15 : Int32)) = 0 := by decide +kernel
theorem bits_s {d : Int32} {ρ : Nat → Int32} {M N : Mem} (h : RX d ρ M N) : SI d ρ M N (f_Q_doPrefixed_m M) (f_R_bits_m N) := by
  obtain ⟨s1, v1, o1⟩ := fetch_s h
  unfold f_Q_doPrefixed_m f_R_bits_m f_Q_doPrefixed_j1_m f_R_bits_j1_m f_R_bits_j2_m f_R_bits_j3_m; dsimp only
  rw [v1]
  generalize f_R_next_v N = i at o1 ⊢
  have hy : 0 ≤ ((i >>> ((3 : Int32) &&& (31 : Int32))) &&& (7 : Int32)).toInt ∧ ((i >>> ((3 : Int32) &&& (31 : Int32))) &&& (7 : Int32)).toInt < 8 := and_lt (by decide)
  have hz : 0 ≤ (i &&& (7 : Int32)).toInt ∧ (i &&& (7 : Int32)).toInt < 8 := and_lt (by decide)
  generalize (i >>> ((3 : Int32) &&& (31 : Int32))) &&& (7 : Int32) = y at hy ⊢
  generalize i &&& (7 : Int32) = z at hz ⊢
  obtain ⟨s2, v2, o2⟩ := oct_s s1.1 hz
  have s3 := s1.tr s2
  rw [v2]
  generalize f_R_operand_v (f_R_next_m N) z = v at o2 ⊢
  generalize f_R_operand_m (f_R_next_m N) z = N' at s3 ⊢
  generalize f_Q_octetAt_m (f_Q_fetch_m M) z = M' at s3 ⊢
  clear s2 s1 v1 v2
  obtain ⟨j, hj, ej⟩ := of_nI (n := 256) o2 (by decide)
  obtain ⟨k, hk, ek⟩ := of_nI (n := 8) hy (by decide)
  have bd := bit_d ⟨j, hj⟩ ⟨k, hk⟩
  rw [show nI ((⟨j, hj⟩ : Fin 256) : Nat) = v from ej.symm, show nI ((⟨k, hk⟩ : Fin 8) : Nat) = y from ek.symm] at bd
  by_cases x0 : (i >>> ((6 : Int32) &&& (31 : Int32))) = 0
  · rw [if_pos x0, if_pos x0]
    obtain ⟨s4, v4, o4⟩ := shift_s s3.1 hy o2
    have s5 := s3.tr s4
    rw [v4]; exact s5.tr (soct_s s5.1 hz o4)
  · rw [if_neg x0, if_neg x0]
    by_cases x1 : (i >>> ((6 : Int32) &&& (31 : Int32))) = 1
    · rw [if_pos x1, if_pos x1]
      obtain ⟨m, hm, em⟩ := s3.1.f
      have q := bitf_d ⟨m, hm⟩
      rw [show nI (16 * ((⟨m, hm⟩ : Fin 16) : Nat)) = N' 8 6 from em.symm] at q
      have q0 := q false
      have q1 := q true
      simp (decide := true) only [if_true, if_false] at q0 q1
      rw [(s3.1.r 6).1]
      unfold f_Q_zero_v f_Q_zero_j1_v
      simp only [flag_eq, mst_eq, mst_mst]
      by_cases hb : (v &&& ((1 : Int32) <<< (y &&& (31 : Int32)))) = 0
      · rw [if_pos hb, if_pos (bd.1.mp hb), q1.1]
        exact s3.tr (p_r s3.1 q1.2.1 (fun _ => q1.2.2))
      · rw [if_neg hb, if_neg (mt bd.1.mpr hb), q0.1]
        exact s3.tr (p_r s3.1 q0.2.1 (fun _ => q0.2.2))
    · rw [if_neg x1, if_neg x1]
      by_cases x2 : (i >>> ((6 : Int32) &&& (31 : Int32))) = 2
      · rw [if_pos x2, if_pos x2]; exact s3.tr (soct_s s3.1 hz (andl_rng o2))
      · rw [if_neg x2, if_neg x2]; exact s3.tr (soct_s s3.1 hz (oct_or o2 bd.2))
/-- adding to the stack pointer -/
theorem m16 (v : Int32) : (((v &&& (65535 : Int32)) >>> ((8 : Int32) &&& (31 : Int32))) &&& (255 : Int32)) = ((v >>> ((8 : Int32) &&& (31 : Int32))) &&& (255 : Int32)) ∧ ((v &&& (65535 : Int32)) &&& (255 : Int32)) = (v &&& (255 : Int32)) := by
  have h8 : ((8 : Int32) &&& (31 : Int32)) = 8 := by decide
  rw [h8]
  constructor
  · apply Int32.toBitVec_inj.mp
    simp only [Int32.toBitVec_and, Int32.toBitVec_shiftRight]
    apply BitVec.eq_of_getLsbD_eq
    intro i hi
    have e1 : ((8 : Int32).toBitVec.smod 32) = 8#32 := by decide
    have e2 : (255 : Int32).toBitVec.getLsbD i = decide (i < 8) := by
      have : ∀ i : Fin 32, (255 : Int32).toBitVec.getLsbD i.val = decide (i.val < 8) := by decide
      exact this ⟨i, hi⟩
    have e3 : i < 8 → (65535 : Int32).toBitVec.getLsbD (8 + i) = true := by
      have : ∀ i : Fin 32, i.val < 8 → (65535 : Int32).toBitVec.getLsbD (8 + i.val) = true := by decide
      exact this ⟨i, hi⟩
    simp only [BitVec.getLsbD_and, e2, e1, BitVec.sshiftRight_eq', BitVec.getLsbD_sshiftRight]
    by_cases h : i < 8
    · have t : (8#32).toNat + i < 32 := by show 8 + i < 32; omega
      rw [if_pos t, if_pos t]
      have e4 : (8#32).toNat + i = 8 + i := rfl
      rw [e4, e3 h, Bool.and_true]
    · simp only [h, decide_false, Bool.and_false]
  · rw [Int32.and_assoc]; rfl
theorem spm (N : Mem) (v : Int32) : f_R_setPair_m N 2 (v &&& (65535 : Int32)) = f_R_setPair_m N 2 v := by
  unfold f_R_setPair_m f_R_setPair_j1_m; simp (decide := true) only [if_true, if_false]
  rw [(m16 v).1, (m16 v).2]
theorem asp_s {d : Int32} {ρ : Nat → Int32} {M N : Mem} (h : RX d ρ M N) : SI d ρ M N (f_Q_doHigh_j4_m M 3) (mst (mst (f_R_spAnd_m N) 0 18 (f_R_spAnd_v N)) 0 20 ((mst (f_R_spAnd_m N) 0 18 (f_R_spAnd_v N)) 0 20 + (2 : Int32))) ∧ SI d ρ M N (f_Q_doHigh_j4_m M 2) (mst (f_R_setPair_m (f_R_spAnd_m N) (2 : Int32) (f_R_spAnd_v N)) 0 20 ((f_R_setPair_m (f_R_spAnd_m N) (2 : Int32) (f_R_spAnd_v N)) 0 20 + (1 : Int32))) := by
  obtain ⟨s1, v1, o1⟩ := fetch_s h
  unfold f_Q_doHigh_j4_m f_Q_doHigh_j2_m f_R_spAnd_m f_R_spAnd_v f_R_spAnd_j1_m f_R_spAnd_j1_v f_R_spAnd_j2_m f_R_spAnd_j2_v f_Q_addToStackPointer_m f_Q_addToStackPointer_j1_m f_Q_addToStackPointer_j2_m f_Q_addToStackPointer_j3_m; dsimp only
  rw [v1]
  generalize f_R_next_v N = n at o1 ⊢
  generalize f_R_next_m N = N' at s1 ⊢
  generalize f_Q_fetch_m M = M' at s1 ⊢
  have g2 := s1.1.2.1.2.1
  simp only [fl_eq, mst_no (show ¬ 5 = 17 by decide), mst_no (show ¬ 0 = 8 by decide)]
  rw [g2, sx_s N' o1]
  have sg : ∀ X : Mem, f_R_signed_v X n = f_R_signed_v N' n := fun X => rfl
  simp only [sg]
  generalize f_R_signed_v N' n = e
  have fin : ∀ f f' : Int32, f = f' → oct f → (f &&& (15 : Int32)) = 0 → SI d ρ M N (mst (f_Q_setPair_m (mst M' 17 6 f) (3 : Int32) (N' 0 18 + e)) 5 10 ((f_Q_setPair_m (mst M' 17 6 f) (3 : Int32) (N' 0 18 + e)) 5 10 + (2 : Int32))) (mst (mst (mst N' 8 6 f') 0 18 ((N' 0 18 + e) &&& (65535 : Int32))) 0 20 ((mst (mst N' 8 6 f') 0 18 ((N' 0 18 + e) &&& (65535 : Int32))) 0 20 + (2 : Int32))) ∧ SI d ρ M N (mst (f_Q_setPair_m (mst M' 17 6 f) (2 : Int32) (N' 0 18 + e)) 5 10 ((f_Q_setPair_m (mst M' 17 6 f) (2 : Int32) (N' 0 18 + e)) 5 10 + (1 : Int32))) (mst (f_R_setPair_m (mst N' 8 6 f') (2 : Int32) ((N' 0 18 + e) &&& (65535 : Int32))) 0 20 ((f_R_setPair_m (mst N' 8 6 f') (2 : Int32) ((N' 0 18 + e) &&& (65535 : Int32))) 0 20 + (1 : Int32))) := by
    intro f f' ef h1 h2
    subst ef
    have a := s1.tr (p_r s1.1 (k := 6) h1 (fun _ => h2))
    constructor
    · have b := a.tr (spair_s a.1 (p := 3) (by decide) (N' 0 18 + e))
      exact b.tr (p_tick b.1 2)
    · rw [spm]
      have b := a.tr (spair_s a.1 (p := 2) (by decide) (N' 0 18 + e))
      exact b.tr (p_tick b.1 1)
  by_cases h1 : ((N' 0 18 &&& (15 : Int32)) + (n &&& (15 : Int32))) ≤ (15 : Int32) <;> by_cases h2 : ((N' 0 18 &&& (255 : Int32)) + n) ≤ (255 : Int32) <;> simp (decide := true) only [h1, h2, if_true, if_false]
  all_goals exact fin _ _ (by decide) (by decide) (by decide)
/-- what the highest block may come to, but EI and DI -/
def OA (d : Int32) (ρ : Nat → Int32) (M N M' N' : Mem) : Prop := SI d ρ M N M' N' ∨ (∃ M1 N1, SI d ρ M N M1 N1 ∧ M' = mst M1 5 5 (1 : Int32) ∧ N' = mst N1 0 23 (1 : Int32)) ∨ (∃ M1 N1, SI d ρ M N M1 N1 ∧ M' = mst M1 5 3 (1 : Int32) ∧ N' = mst N1 0 21 (1 : Int32))
theorem OA.lock {d : Int32} {ρ : Nat → Int32} {M N : Mem} (h : RX d ρ M N) : OA d ρ M N (mst M 5 5 (1 : Int32)) (mst N 0 23 (1 : Int32)) := Or.inr (Or.inl ⟨M, N, SI.rf h, rfl, rfl⟩)
theorem mst_self (M : Mem) (c k : Nat) {x : Int32} (e : M c k = x) : mst M c k x = M := by
  funext a b
  by_cases ha : a = c
  · subst ha
    by_cases hb : b = k
    · subst hb; rw [mst_eq, e]
    · rw [mst_ne hb]
  · rw [mst_no ha]
theorem ret_s {d : Int32} {ρ : Nat → Int32} {M N : Mem} (h : RX d ρ M N) : SI d ρ M N (f_Q_jump_m (f_Q_pop_m M) (1 : Int32) (f_Q_pop_v M)) (mst (mst (f_R_pop_m N) 0 19 (f_R_pop_v N)) 0 20 ((mst (f_R_pop_m N) 0 19 (f_R_pop_v N)) 0 20 + (1 : Int32))) := by
  obtain ⟨s1, v1, o1⟩ := pop_s h
  have s2 := s1.tr (jump_s s1.1 1 (f_Q_pop_v M))
  have e : f_R_jumps_m (f_R_pop_m N) (1 : Int32) (f_Q_pop_v M) = mst (mst (f_R_pop_m N) 0 19 (f_R_pop_v N)) 0 20 ((mst (f_R_pop_m N) 0 19 (f_R_pop_v N)) 0 20 + (1 : Int32)) := by
    unfold f_R_jumps_m; rw [if_neg (by decide), v1, and_id o1]
  rw [e] at s2; exact s2
theorem rif_s {d : Int32} {ρ : Nat → Int32} {M N : Mem} (h : RX d ρ M N) (y : Int32) : SI d ρ M N (f_Q_returnIf_m M (f_Q_holds_v M y)) (if f_R_holds_v (mst N 0 20 (N 0 20 + (1 : Int32))) y = 0 then (mst N 0 20 (N 0 20 + (1 : Int32))) else (mst (mst (f_R_pop_m (mst N 0 20 (N 0 20 + (1 : Int32)))) 0 19 (f_R_pop_v (mst N 0 20 (N 0 20 + (1 : Int32))))) 0 20 ((mst (f_R_pop_m (mst N 0 20 (N 0 20 + (1 : Int32)))) 0 19 (f_R_pop_v (mst N 0 20 (N 0 20 + (1 : Int32))))) 0 20 + (1 : Int32)))) := by
  have s1 := p_tick h 1
  have e : f_R_holds_v (mst N 0 20 (N 0 20 + (1 : Int32))) y = f_R_holds_v N y := by
    unfold f_R_holds_v f_R_holds_j1_v f_R_is_v f_R_is_j1_v; simp only [mst_no (show ¬ 8 = 0 by decide)]
  rw [e, hold_s h]
  unfold f_Q_returnIf_m f_Q_returnIf_j1_m; dsimp only
  split
  · exact s1
  · exact s1.tr (ret_s s1.1)
theorem sap_s {d : Int32} {ρ : Nat → Int32} {M N : Mem} (h : RX d ρ M N) {p v : Int32} (hp : 0 ≤ p.toInt ∧ p.toInt < 4) (hv : w16 v) : SI d ρ M N (f_Q_setStackPair_m M p v) (if (3 : Int32) ≤ p then mst (mst N 8 7 (v >>> ((8 : Int32) &&& (31 : Int32)))) 8 6 (v &&& (240 : Int32)) else f_R_setPair_m N p v) := by
  unfold f_Q_setStackPair_m f_Q_setStackPair_j1_m; dsimp only
  rcases kind4 hp with e | e | e | e <;> subst e <;> simp (decide := true) only [if_true, if_false]
  · exact spair_s h hp v
  · exact spair_s h hp v
  · exact spair_s h hp v
  · have a := p_r h (k := 7) (shr8_rng hv) (fun e => absurd e (by decide))
    have z : ((v &&& (240 : Int32)) &&& (15 : Int32)) = 0 := by
      rw [Int32.and_assoc, show ((240 : Int32) &&& (15 : Int32)) = 0 from by decide, Int32.and_zero]
    exact a.tr (p_r a.1 (k := 6) (v := v &&& (240 : Int32)) (and_lt (by decide)) (fun _ => z))
theorem stp_s {d : Int32} {ρ : Nat → Int32} {M N : Mem} (h : RX d ρ M N) {p : Int32} (hp : 0 ≤ p.toInt ∧ p.toInt < 4) : SI d ρ M N (f_Q_push_m M (f_Q_stackPair_v M p)) (if (3 : Int32) ≤ p then (f_R_third_j3_m N (((N 8 7) <<< ((8 : Int32) &&& (31 : Int32))) ||| (N 8 6))) else f_R_third_j3_m N (f_R_pair_v N p)) := by
  have e : f_Q_stackPair_v M p = if (3 : Int32) ≤ p then (((N 8 7) <<< ((8 : Int32) &&& (31 : Int32))) ||| (N 8 6)) else f_R_pair_v N p := by
    unfold f_Q_stackPair_v f_Q_stackPair_j1_v; dsimp only
    rw [(h.r 7).1, (h.r 6).1, (pair_s h hp).1]
    rcases kind4 hp with e | e | e | e <;> subst e <;> simp (decide := true) only [if_true, if_false]
  have w : w16 (((N 8 7) <<< ((8 : Int32) &&& (31 : Int32))) ||| (N 8 6)) := word_rng' (h.r 6).2 (h.r 7).2
  unfold f_R_third_j3_m f_R_third_j1_m; dsimp only
  rw [e]
  split
  · exact push_s h w
  · exact push_s h (pair_s h hp).2
theorem call_s {d : Int32} {ρ : Nat → Int32} {M N : Mem} (h : RX d ρ M N) {t : Int32} (ht : w16 t) : SI d ρ M N (mst (f_Q_push_m M (M 5 8)) 5 8 t) (f_R_calls_m N (1 : Int32) t) := by
  have s := push_s h h.pc
  have s2 := s.tr (p_pc s.1 ht)
  unfold f_R_calls_m; rw [if_neg (by decide)]; dsimp only
  rw [h.2.1.2.2.1, mst_ne (c := 0) (k := 19) (i := 20) (by decide), mst_comm (by decide)]
  exact s2
theorem nwh (N : Mem) (y : Int32) : f_R_holds_v (f_R_nextWord_m N) y = f_R_holds_v N y := by
  unfold f_R_holds_v f_R_holds_j1_v f_R_is_v f_R_is_j1_v f_R_nextWord_m f_R_next_m f_R_reads_m
  simp only [mst_no (show ¬ 8 = 0 by decide)]
theorem high_j {M : Mem} {y z : Int32} : f_Q_doHigh_m M y z = f_Q_doHigh_j1_m M y z (y &&& (1 : Int32)) := by
  unfold f_Q_doHigh_m; (try dsimp only)
  rcases b1 y with e | e <;> rw [e]
  · rw [if_pos rfl]
  · rw [if_neg (by decide)]
theorem high_s {d : Int32} {ρ : Nat → Int32} {M N : Mem} (h : RX d ρ M N) (hb : isB (M 5 3)) {y z : Int32} (hy : 0 ≤ y.toInt ∧ y.toInt < 8) (hz : 0 ≤ z.toInt ∧ z.toInt < 4) (hx : z = 3 → ¬ y = 1 ∧ ¬ y = 6 ∧ ¬ y = 7) : OA d ρ M N (f_Q_doHigh_m M y z) (f_R_third_m N y z) := by
  rw [high_j]
  rcases kind4 hz with e | e | e | e <;> subst e <;> unfold f_Q_doHigh_j1_m f_R_third_m <;> simp (decide := true) only [if_true, if_false]
  · left
    rcases eight hy with e | e | e | e | e | e | e | e <;> subst e <;> simp (decide := true) only [if_true, if_false] <;> unfold f_R_third_j1_m
    · exact rif_s h 0
    · exact rif_s h 1
    · exact rif_s h 2
    · exact rif_s h 3
    · obtain ⟨s1, v1, o1⟩ := fetch_s h
      unfold f_Q_doHigh_j3_m f_Q_doHigh_j2_m; dsimp only
      rw [v1, (io_s o1).1]; exact s1.tr (cpst_s s1.1 (io_s o1).2)
    · exact (asp_s h).1
    · obtain ⟨s1, v1, o1⟩ := fetch_s h
      unfold f_Q_doHigh_j3_m f_Q_doHigh_j2_m; dsimp only
      rw [v1, (io_s o1).1]; exact s1.tr (cpld_s s1.1 (by decide) (io_s o1).2)
    · exact (asp_s h).2
  · have hp : 0 ≤ (y >>> ((1 : Int32) &&& (31 : Int32))).toInt ∧ (y >>> ((1 : Int32) &&& (31 : Int32))).toInt < 4 := ⟨(shr1_rng hy).1, by have := (shr1_rng hy).2; omega⟩
    by_cases hq : (y &&& (1 : Int32)) = 0
    · left
      rw [if_pos hq, if_pos hq]
      obtain ⟨s1, v1, o1⟩ := pop_s h
      unfold f_R_third_j2_m f_R_third_j1_m f_Q_doHigh_j2_m
      rw [v1]; exact s1.tr (sap_s s1.1 hp o1)
    · rw [if_neg hq, if_neg hq]
      rcases eight hy with e | e | e | e | e | e | e | e <;> subst e <;> first | exact absurd (by decide) hq | skip
      all_goals unfold f_R_third_j1_m f_Q_doHigh_j2_m f_Q_doHigh_j6_m f_Q_doHigh_j5_m f_Q_doHigh_j2_m; simp (decide := true) only [if_true, if_false]
      · left
        have s := ret_s h
        have e3 : (f_Q_jump_m (f_Q_pop_m M) (1 : Int32) (f_Q_pop_v M)) 5 3 = M 5 3 := s.2.1 3 (by decide) (by decide) (by decide)
        have e4 : (if (f_Q_jump_m (f_Q_pop_m M) (1 : Int32) (f_Q_pop_v M)) 5 3 = 0 then mst (f_Q_jump_m (f_Q_pop_m M) (1 : Int32) (f_Q_pop_v M)) 5 3 (0 : Int32) else mst (f_Q_jump_m (f_Q_pop_m M) (1 : Int32) (f_Q_pop_v M)) 5 3 (1 : Int32)) = f_Q_jump_m (f_Q_pop_m M) (1 : Int32) (f_Q_pop_v M) := by
          rcases hb with b | b
          · rw [if_pos (e3.trans b), mst_self _ _ _ (e3.trans b)]
          · rw [if_neg (by rw [e3, b]; decide), mst_self _ _ _ (e3.trans b)]
        rw [e4]; exact s
      · right; right
        refine ⟨_, _, ret_s h, ?_, rfl⟩
        split <;> rfl
      · left
        have hh := pair_s h (p := 2) (by decide)
        rw [hh.1]; exact p_pc h hh.2
      · left
        have hh := pair_s h (p := 2) (by decide)
        rw [hh.1]
        have s := p_sp h hh.2
        exact s.tr (p_tick s.1 1)
  · left
    rcases eight hy with e | e | e | e | e | e | e | e <;> subst e <;> simp (decide := true) only [if_true, if_false] <;> unfold f_R_third_j1_m <;> first | unfold f_Q_doHigh_j7_m f_Q_doHigh_j8_m f_Q_doHigh_j2_m | unfold f_Q_doHigh_j2_m
    all_goals (try simp (decide := true) only [if_true, if_false])
    · obtain ⟨s1, v1, o1⟩ := word_s h
      have e : f_Q_holds_v M 0 = f_Q_holds_v (f_Q_fetchWord_m M) 0 := by rw [hold_s h, hold_s s1.1, nwh]
      rw [e, hold_s s1.1, v1]; exact s1.tr (jump_s s1.1 _ _)
    · obtain ⟨s1, v1, o1⟩ := word_s h
      have e : f_Q_holds_v M 1 = f_Q_holds_v (f_Q_fetchWord_m M) 1 := by rw [hold_s h, hold_s s1.1, nwh]
      rw [e, hold_s s1.1, v1]; exact s1.tr (jump_s s1.1 _ _)
    · obtain ⟨s1, v1, o1⟩ := word_s h
      have e : f_Q_holds_v M 2 = f_Q_holds_v (f_Q_fetchWord_m M) 2 := by rw [hold_s h, hold_s s1.1, nwh]
      rw [e, hold_s s1.1, v1]; exact s1.tr (jump_s s1.1 _ _)
    · obtain ⟨s1, v1, o1⟩ := word_s h
      have e : f_Q_holds_v M 3 = f_Q_holds_v (f_Q_fetchWord_m M) 3 := by rw [hold_s h, hold_s s1.1, nwh]
      rw [e, hold_s s1.1, v1]; exact s1.tr (jump_s s1.1 _ _)
    · rw [(h.r 1).1, (io_s (h.r 1).2).1]; exact cpst_s h (io_s (h.r 1).2).2
    · obtain ⟨s1, v1, o1⟩ := word_s h
      rw [v1]; exact s1.tr (cpst_s s1.1 o1)
    · rw [(h.r 1).1, (io_s (h.r 1).2).1]; exact cpld_s h (by decide) (io_s (h.r 1).2).2
    · obtain ⟨s1, v1, o1⟩ := word_s h
      rw [v1]; exact s1.tr (cpld_s s1.1 (by decide) o1)
  · rcases eight hy with e | e | e | e | e | e | e | e <;> subst e <;> first | exact absurd rfl (hx rfl).1 | exact absurd rfl (hx rfl).2.1 | exact absurd rfl (hx rfl).2.2 | skip
    all_goals simp (decide := true) only [if_true, if_false]; unfold f_R_third_j1_m f_Q_doHigh_j2_m
    · left
      obtain ⟨s1, v1, o1⟩ := word_s h
      rw [v1]; exact s1.tr (jump_s s1.1 _ _)
    all_goals exact OA.lock h
