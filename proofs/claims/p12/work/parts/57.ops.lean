/-! Fetching, operands, pairs, the stack. -/
theorem and_id {a : Int32} (ha : w16 a) : a &&& (65535 : Int32) = a := by
  have h := and_pow ha 16 (by decide)
  have h2 := ha.2
  have h1 := ha.1
  apply ti_inj
  have e : (65535 : Int32) = nI (2 ^ 16 - 1) := by decide
  rw [e, h]
  show a.toInt % (65536 : Int) = a.toInt
  omega
theorem and_id8 {a : Int32} (ha : oct a) : a &&& (255 : Int32) = a := by
  have h2 := ha.2
  have h1 := ha.1
  have h := and_pow (s := a) ⟨ha.1, by omega⟩ 8 (by decide)
  apply ti_inj
  have e : (255 : Int32) = nI (2 ^ 8 - 1) := by decide
  rw [e, h]
  show a.toInt % (256 : Int) = a.toInt
  omega
theorem RX.sp {d : Int32} {ρ : Nat → Int32} {M N : Mem} (h : RX d ρ M N) : w16 (N 0 18) := h.2.2.1.f 18
theorem RX.pc {d : Int32} {ρ : Nat → Int32} {M N : Mem} (h : RX d ρ M N) : w16 (N 0 19) := h.2.2.1.f 19
theorem RX.r {d : Int32} {ρ : Nat → Int32} {M N : Mem} (h : RX d ρ M N) (k : Nat) : M 17 k = N 8 k ∧ oct (N 8 k) := ⟨by rw [h.2.1.1], h.2.2.1.r⟩
/-- a load on the class's side, a read on the reference's -/
theorem l_rd {d : Int32} {ρ : Nat → Int32} {M N : Mem} (h : RX d ρ M N) {a : Int32} (ha : w16 a) : f_Y_load_v M a = f_R_reads_v N a ∧ oct (f_R_reads_v N a) := by
  obtain ⟨hm, -, sN, -, -, hd⟩ := h
  have h1 : RM M (mst N 0 20 ((N 0 20) + (1 : Int32))) := hm.n0 (by decide) (by decide) _
  have e : f_R_reads_v N a = f_R_get_v (mst N 0 20 ((N 0 20) + (1 : Int32))) (a &&& (65535 : Int32)) := rfl
  have hd2 : oct (mst N 0 20 ((N 0 20) + (1 : Int32)) 0 25) := by rw [mst_ne (by decide), sN.2.2.2.1]; exact hd
  exact ⟨by rw [e, and_id ha]; exact ld h1 hd2 ha, (so_R_reads N a sN).2.2⟩
theorem ld5 (M : Mem) (k : Nat) (x a : Int32) : f_Y_load_v (mst M 5 k x) a = f_Y_load_v M a := by
  have e : ∀ c : Nat, ¬ c = 5 → mst M 5 k x c = M c := fun c hc => mst_no hc
  unfold f_Y_load_v f_Y_load_j1_v f_K_loadRam_v f_K_loadRam_j1_v f_K_loadRom_v f_K_loadRom_j1_v f_P_load_v f_P_load_j1_v f_P_load_j2_v f_P_load_j3_v
  simp only [e 1 (by decide), e 2 (by decide), e 6 (by decide), e 7 (by decide), e 8 (by decide), e 9 (by decide), e 10 (by decide), e 11 (by decide), e 12 (by decide)]
theorem fetch_s {d : Int32} {ρ : Nat → Int32} {M N : Mem} (h : RX d ρ M N) : SI d ρ M N (f_Q_fetch_m M) (f_R_next_m N) ∧ f_Q_fetch_v M = f_R_next_v N ∧ oct (f_R_next_v N) := by
  have e1 : f_Q_fetch_m M = mst (mst M 5 8 (((N 0 19) + (1 : Int32)) &&& (65535 : Int32))) 5 10 ((mst M 5 8 (((N 0 19) + (1 : Int32)) &&& (65535 : Int32))) 5 10 + (1 : Int32)) := by
    unfold f_Q_fetch_m; dsimp only; rw [h.2.1.2.2.1]
  have e2 : f_R_next_m N = mst (mst N 0 19 (((N 0 19) + (1 : Int32)) &&& (65535 : Int32))) 0 20 ((mst N 0 19 (((N 0 19) + (1 : Int32)) &&& (65535 : Int32))) 0 20 + (1 : Int32)) := by
    unfold f_R_next_m f_R_reads_m; dsimp only
    rw [mst_ne (j := 0) (k := 20) (i := 19) (by decide), mst_comm (by decide), mst_ne (j := 0) (k := 19) (i := 20) (by decide)]
  have h1 := p_pc h (v := ((N 0 19) + (1 : Int32)) &&& (65535 : Int32)) (and_lt (by decide))
  have h2 := h1.tr (p_tick h1.1 1)
  have h3 := l_rd h h.pc
  refine ⟨by rw [e1, e2]; exact h2, ?_, h3.2⟩
  show f_Y_load_v M (M 5 8) = f_R_reads_v N (N 0 19)
  rw [h.2.1.2.2.1]; exact h3.1
theorem word_s {d : Int32} {ρ : Nat → Int32} {M N : Mem} (h : RX d ρ M N) : SI d ρ M N (f_Q_fetchWord_m M) (f_R_nextWord_m N) ∧ f_Q_fetchWord_v M = f_R_nextWord_v N ∧ w16 (f_R_nextWord_v N) := by
  obtain ⟨s1, v1, o1⟩ := fetch_s h
  obtain ⟨s2, v2, o2⟩ := fetch_s s1.1
  refine ⟨s1.tr s2, ?_, word_rng o1 o2⟩
  unfold f_Q_fetchWord_v f_R_nextWord_v; dsimp only
  rw [v1, v2, Int32.or_comm]
theorem pair_s {d : Int32} {ρ : Nat → Int32} {M N : Mem} (h : RX d ρ M N) {p : Int32} (hp : 0 ≤ p.toInt ∧ p.toInt < 4) : f_Q_pair_v M p = f_R_pair_v N p ∧ w16 (f_R_pair_v N p) := by
  refine ⟨?_, (so_R_pair N p h.2.2.1 hp).2⟩
  unfold f_Q_pair_v f_R_pair_v f_Q_pair_j1_v f_R_pair_j1_v
  rw [h.2.1.1, h.2.1.2.1]
  rcases kind4 hp with e | e | e | e <;> subst e <;> rfl
theorem spair_s {d : Int32} {ρ : Nat → Int32} {M N : Mem} (h : RX d ρ M N) {p : Int32} (hp : 0 ≤ p.toInt ∧ p.toInt < 4) (v : Int32) : SI d ρ M N (f_Q_setPair_m M p v) (f_R_setPair_m N p v) := by
  have key : ∀ k : Nat, ¬ k = 6 → ¬ k + 1 = 6 → SI d ρ M N (mst (mst M 17 k ((v >>> ((8 : Int32) &&& (31 : Int32))) &&& (255 : Int32))) 17 (k + 1) (v &&& (255 : Int32))) (mst (mst N 8 k ((v >>> ((8 : Int32) &&& (31 : Int32))) &&& (255 : Int32))) 8 (k + 1) (v &&& (255 : Int32))) := by
    intro k h1 h2
    have a := p_r h (k := k) (v := (v >>> ((8 : Int32) &&& (31 : Int32))) &&& (255 : Int32)) (and_lt (by decide)) (fun e => absurd e h1)
    exact a.tr (p_r a.1 (k := k + 1) (v := v &&& (255 : Int32)) (and_lt (by decide)) (fun e => absurd e h2))
  unfold f_Q_setPair_m f_R_setPair_m f_Q_setPair_j1_m f_R_setPair_j1_m
  rcases kind4 hp with e | e | e | e <;> subst e
  · exact key 0 (by decide) (by decide)
  · exact key 2 (by decide) (by decide)
  · exact key 4 (by decide) (by decide)
  · exact p_sp h (and_lt (by decide))
theorem eight {x : Int32} (h : 0 ≤ x.toInt ∧ x.toInt < 8) : x = 0 ∨ x = 1 ∨ x = 2 ∨ x = 3 ∨ x = 4 ∨ x = 5 ∨ x = 6 ∨ x = 7 := by
  have h9 : x.toInt = 0 ∨ x.toInt = 1 ∨ x.toInt = 2 ∨ x.toInt = 3 ∨ x.toInt = 4 ∨ x.toInt = 5 ∨ x.toInt = 6 ∨ x.toInt = 7 := by omega
  rcases h9 with h | h | h | h | h | h | h | h
  · exact Or.inl (ti_inj (h.trans (by decide)))
  · exact Or.inr (Or.inl (ti_inj (h.trans (by decide))))
  · exact Or.inr (Or.inr (Or.inl (ti_inj (h.trans (by decide)))))
  · exact Or.inr (Or.inr (Or.inr (Or.inl (ti_inj (h.trans (by decide))))))
  · exact Or.inr (Or.inr (Or.inr (Or.inr (Or.inl (ti_inj (h.trans (by decide)))))))
  · exact Or.inr (Or.inr (Or.inr (Or.inr (Or.inr (Or.inl (ti_inj (h.trans (by decide))))))))
  · exact Or.inr (Or.inr (Or.inr (Or.inr (Or.inr (Or.inr (Or.inl (ti_inj (h.trans (by decide)))))))))
  · exact Or.inr (Or.inr (Or.inr (Or.inr (Or.inr (Or.inr (Or.inr (ti_inj (h.trans (by decide)))))))))
theorem and7 {x : Int32} (h : 0 ≤ x.toInt ∧ x.toInt < 8) : (x &&& (7 : Int32)) = x := by
  rcases eight h with e | e | e | e | e | e | e | e <;> subst e <;> decide
theorem clamp6 {x : Int32} (h : 0 ≤ x.toInt ∧ x.toInt < 8) (hn : ¬ x = 6) : ¬ x.toNatClampNeg = 6 := by
  intro e
  have h1 := ti_clamp h.1
  apply hn; apply ti_inj
  have h6 : (6 : Int32).toInt = 6 := by decide
  omega
theorem pair5 (M : Mem) (x p : Int32) : f_Q_pair_v (mst M 5 10 x) p = f_Q_pair_v M p := by
  unfold f_Q_pair_v; rw [mst_ne (by decide), mst_no (by decide)]
theorem oct_s {d : Int32} {ρ : Nat → Int32} {M N : Mem} (h : RX d ρ M N) {k : Int32} (hk : 0 ≤ k.toInt ∧ k.toInt < 8) : SI d ρ M N (f_Q_octetAt_m M k) (f_R_operand_m N k) ∧ f_Q_octetAt_v M k = f_R_operand_v N k ∧ oct (f_R_operand_v N k) := by
  refine ⟨?_, ?_, (so_R_operand N k h.2.2.1 hk).2.2⟩
  · unfold f_Q_octetAt_m f_R_operand_m f_R_operand_j1_m; dsimp only
    by_cases e : k = 6
    · rw [if_pos e, if_pos e]; exact p_tick h 1
    · rw [if_neg e, if_neg e]; exact SI.rf h
  · unfold f_Q_octetAt_v f_R_operand_v f_R_operand_j1_v; dsimp only
    by_cases e : k = 6
    · rw [if_pos e, if_pos e, pair5, ld5]
      have hp := pair_s h (p := 2) (by decide)
      rw [hp.1]; exact (l_rd h hp.2).1
    · rw [if_neg e, if_neg e, and7 hk, h.2.1.1]
theorem wr_s {d : Int32} {ρ : Nat → Int32} {M N : Mem} (h : RX d ρ M N) {a v : Int32} (ha : w16 a) (hv : oct v) : SI d ρ M N (f_Y_store_m (mst M 5 10 (M 5 10 + (1 : Int32))) a v) (f_R_writes_m N a v) := by
  have h1 := p_tick h 1
  have e : f_R_writes_m N a v = f_R_put_m (mst N 0 20 ((N 0 20) + (1 : Int32))) a v := by
    unfold f_R_writes_m; dsimp only; rw [and_id ha, and_id8 hv]
  rw [e]; exact h1.tr (p_st h1.1 ha hv)
theorem soct_s {d : Int32} {ρ : Nat → Int32} {M N : Mem} (h : RX d ρ M N) {k v : Int32} (hk : 0 ≤ k.toInt ∧ k.toInt < 8) (hv : oct v) : SI d ρ M N (f_Q_setOctet_m M k v) (f_R_setOperand_m N k v) := by
  unfold f_Q_setOctet_m f_R_setOperand_m f_R_setOperand_j1_m; dsimp only
  by_cases e : k = 6
  · rw [if_pos e, if_pos e, pair5]
    have hp := pair_s h (p := 2) (by decide)
    rw [hp.1]; exact wr_s h hp.2 hv
  · rw [if_neg e, if_neg e, and7 hk, and_id8 hv]
    exact p_r h hv (fun e2 => absurd e2 (clamp6 hk e))
/-- a state pair out of its parts -/
theorem dec2 {s : Int32} (hs : w16 s) : (((s - (1 : Int32)) &&& (65535 : Int32)) - (1 : Int32)) &&& (65535 : Int32) = (s - (2 : Int32)) &&& (65535 : Int32) := by
  apply Int32.toBitVec_inj.mp
  simp only [Int32.toBitVec_and, Int32.toBitVec_sub]
  apply BitVec.eq_of_toNat_eq
  simp only [BitVec.toNat_and, BitVec.toNat_sub]
  have e1 : (1 : Int32).toBitVec.toNat = 1 := by decide
  have e2 : (2 : Int32).toBitVec.toNat = 2 := by decide
  have e3 : (65535 : Int32).toBitVec.toNat = 2 ^ 16 - 1 := by decide
  rw [e1, e2, e3]
  simp only [Nat.and_two_pow_sub_one_eq_mod]
  have := s.toBitVec.isLt
  omega
theorem inc2 {s : Int32} (hs : w16 s) : (((s + (1 : Int32)) &&& (65535 : Int32)) + (1 : Int32)) &&& (65535 : Int32) = (s + (2 : Int32)) &&& (65535 : Int32) := by
  apply Int32.toBitVec_inj.mp
  simp only [Int32.toBitVec_and, Int32.toBitVec_add]
  apply BitVec.eq_of_toNat_eq
  simp only [BitVec.toNat_and, BitVec.toNat_add]
  have e1 : (1 : Int32).toBitVec.toNat = 1 := by decide
  have e2 : (2 : Int32).toBitVec.toNat = 2 := by decide
  have e3 : (65535 : Int32).toBitVec.toNat = 2 ^ 16 - 1 := by decide
  rw [e1, e2, e3]
  simp only [Nat.and_two_pow_sub_one_eq_mod]
  have := s.toBitVec.isLt
  omega
theorem push_s {d : Int32} {ρ : Nat → Int32} {M N : Mem} (h : RX d ρ M N) {v : Int32} (hv : w16 v) : SI d ρ M N (f_Q_push_m M v) (mst (f_R_push_m N v) 0 20 ((f_R_push_m N v) 0 20 + (1 : Int32))) := by
  obtain ⟨hm, ⟨g1, g2, g3, g4⟩, sN, fz, dr, hd⟩ := h
  have hsp : w16 (N 0 18) := sN.f 18
  have hi : oct (v >>> ((8 : Int32) &&& (31 : Int32))) := shr8_rng hv
  have lo : oct (v &&& (255 : Int32)) := and_lt (by decide)
  have w1 : w16 ((N 0 18 - (1 : Int32)) &&& (65535 : Int32)) := and_lt (by decide)
  have w2 : w16 ((N 0 18 - (2 : Int32)) &&& (65535 : Int32)) := and_lt (by decide)
  -- the reference, step by step
  have sP := (so_R_push N v sN).2
  generalize eA : mst (mst N 0 18 ((N 0 18 - (1 : Int32)) &&& (65535 : Int32))) 0 20 (N 0 20 + (1 : Int32)) = A
  have hA : RM M A := by rw [← eA]; exact (hm.n0 (by decide) (by decide) _).n0 (by decide) (by decide) _
  have sA : SR d ρ A := by rw [← eA]; exact SR.sf (SR.sf sN (by decide) w1) (by decide) (any_rng _)
  have hB := st_no1 hA sA hd w1 hi
  have sB := (so_R_put A _ _ sA w1 hi).2
  generalize eB : f_R_put_m A ((N 0 18 - (1 : Int32)) &&& (65535 : Int32)) (v >>> ((8 : Int32) &&& (31 : Int32))) = B at hB sB
  have b18 : B 0 18 = (N 0 18 - (1 : Int32)) &&& (65535 : Int32) := by rw [← eB, put_n _ _ _ (by decide), ← eA, mst_ne (by decide), mst_eq]
  have b20 : B 0 20 = N 0 20 + (1 : Int32) := by rw [← eB, put_n _ _ _ (by decide), ← eA, mst_eq]
  have bk : ∀ j : Nat, (17 ≤ j ∧ j < 25 ∨ 47 ≤ j ∧ j ≤ 49) → ¬ j = 18 → ¬ j = 20 → B 0 j = N 0 j := fun j hj h1 h2 => by rw [← eB, put_n _ _ _ (Or.inr (Or.inr ⟨rfl, hj⟩)), ← eA, mst_ne h2, mst_ne h1]
  have b8 : B 8 = N 8 := by funext j; rw [← eB, put_n _ _ _ (Or.inr (Or.inl rfl)), ← eA, mst_no (by decide), mst_no (by decide)]
  have b7 : B 7 = N 7 := by funext j; rw [← eB, put_n _ _ _ (Or.inl rfl), ← eA, mst_no (by decide), mst_no (by decide)]
  have bd : DR B := by
    unfold DR; rw [← eB]
    rcases put_45 A ((N 0 18 - (1 : Int32)) &&& (65535 : Int32)) (v >>> ((8 : Int32) &&& (31 : Int32))) with e | e
    · rw [e, ← eA, mst_ne (by decide), mst_ne (by decide)]; exact dr
    · rw [e]; decide
  generalize eC : mst (mst B 0 18 ((N 0 18 - (2 : Int32)) &&& (65535 : Int32))) 0 20 (N 0 20 + (1 : Int32) + (1 : Int32)) = C
  have hC : RM (f_Y_store_m M ((N 0 18 - (1 : Int32)) &&& (65535 : Int32)) (v >>> ((8 : Int32) &&& (31 : Int32)))) C := by rw [← eC]; exact (hB.n0 (by decide) (by decide) _).n0 (by decide) (by decide) _
  have sC : SR d ρ C := by rw [← eC]; exact SR.sf (SR.sf sB (by decide) w2) (by decide) (any_rng _)
  have hD := st_no1 hC sC hd w2 lo
  have eD : f_R_push_m N v = f_R_put_m C ((N 0 18 - (2 : Int32)) &&& (65535 : Int32)) (v &&& (255 : Int32)) := by
    unfold f_R_push_m f_R_writes_m; dsimp only
    rw [mst_ne (c := 0) (k := 18) (i := 20) (by decide), mst_eq, and_id w1, and_id8 hi, eA, eB, b18, dec2 hsp, mst_ne (c := 0) (k := 18) (i := 20) (by decide), mst_eq, b20, eC, and_id w2]
  have c18 : C 0 18 = (N 0 18 - (2 : Int32)) &&& (65535 : Int32) := by rw [← eC, mst_ne (by decide), mst_eq]
  have c20 : C 0 20 = N 0 20 + (1 : Int32) + (1 : Int32) := by rw [← eC, mst_eq]
  have ck : ∀ j : Nat, (17 ≤ j ∧ j < 25 ∨ 47 ≤ j ∧ j ≤ 49) → ¬ j = 18 → ¬ j = 20 → C 0 j = N 0 j := fun j hj h1 h2 => by rw [← eC, mst_ne h2, mst_ne h1, bk j hj h1 h2]
  have c8 : C 8 = N 8 := by rw [← eC, mst_no (by decide), mst_no (by decide), b8]
  have c7 : C 7 = N 7 := by rw [← eC, mst_no (by decide), mst_no (by decide), b7]
  have eM : f_Q_push_m M v = mst (mst (f_Y_store_m (f_Y_store_m M ((N 0 18 - (1 : Int32)) &&& (65535 : Int32)) (v >>> ((8 : Int32) &&& (31 : Int32)))) ((N 0 18 - (2 : Int32)) &&& (65535 : Int32)) (v &&& (255 : Int32))) 5 7 ((N 0 18 - (2 : Int32)) &&& (65535 : Int32))) 5 10 (N 0 20 + (3 : Int32)) := by
    unfold f_Q_push_m; dsimp only
    rw [mst_ne (c := 5) (k := 7) (i := 10) (by decide), g2]
    rw [show f_Y_store_m M ((N 0 18 - (1 : Int32)) &&& (65535 : Int32)) (v >>> ((8 : Int32) &&& (31 : Int32))) 5 7 = N 0 18 from by rw [sto_c _ _ _ (by decide), g2]]
    rw [sto_c (f_Y_store_m M ((N 0 18 - (1 : Int32)) &&& (65535 : Int32)) (v >>> ((8 : Int32) &&& (31 : Int32)))) _ _ (c := 5) (by decide), sto_c M _ _ (c := 5) (by decide), g2, g4]
  rw [eD] at sP ⊢
  rw [eM]
  generalize eP : f_R_put_m C ((N 0 18 - (2 : Int32)) &&& (65535 : Int32)) (v &&& (255 : Int32)) = P at hD sP ⊢
  have pk : ∀ c j : Nat, (c = 7 ∨ c = 8 ∨ (c = 0 ∧ ((17 ≤ j ∧ j < 25) ∨ (47 ≤ j ∧ j ≤ 49)))) → P c j = C c j := fun c j hc => by rw [← eP]; exact put_n _ _ _ hc
  refine ⟨⟨((hD.m (Or.inl rfl) _).m (Or.inl rfl) _).n0 (by decide) (by decide) _, ⟨?_, ?_, ?_, ?_⟩, SR.sf sP (by decide) (any_rng _), ?_, DR.n ?_ (Or.inr (by decide)) _, hd⟩, ?_, ?_, ?_, ?_⟩
  · rw [mst_no (by decide), mst_no (by decide), mst_no (by decide), sto_c _ _ _ (by decide), sto_c _ _ _ (by decide), g1]
    funext j; rw [pk 8 j (Or.inr (Or.inl rfl)), c8]
  · rw [mst_ne (by decide), mst_eq, mst_ne (by decide), pk 0 18 (by decide), c18]
  · rw [mst_ne (by decide), mst_ne (by decide), mst_ne (by decide), sto_c _ _ _ (by decide), sto_c _ _ _ (by decide), pk 0 19 (by decide), ck 19 (by decide) (by decide) (by decide), g3]
  · rw [mst_eq, mst_eq, pk 0 20 (by decide), c20, Int32.add_assoc, Int32.add_assoc]; rfl
  · unfold FZ; rw [mst_no (by decide), pk 8 6 (by decide), c8]; exact fz
  · unfold DR; rw [← eP]
    rcases put_45 C ((N 0 18 - (2 : Int32)) &&& (65535 : Int32)) (v &&& (255 : Int32)) with e | e
    · rw [e, ← eC, mst_ne (by decide), mst_ne (by decide)]; exact bd
    · rw [e]; decide
  · intro k h1 _ h3
    rw [mst_ne h3, mst_ne h1, sto_c _ _ _ (by decide), sto_c _ _ _ (by decide)]
  · intro k hk
    rw [mst_ne (by omega), pk 0 k (Or.inr (Or.inr ⟨rfl, by omega⟩)), ck k (by omega) (by omega) (by omega)]
  · rw [mst_no (by decide), mst_no (by decide), sto_c _ _ _ (by decide), sto_c _ _ _ (by decide)]
  · rw [mst_no (by decide)]; funext j; rw [pk 7 j (Or.inl rfl), c7]
theorem pop_s {d : Int32} {ρ : Nat → Int32} {M N : Mem} (h : RX d ρ M N) : SI d ρ M N (f_Q_pop_m M) (f_R_pop_m N) ∧ f_Q_pop_v M = f_R_pop_v N ∧ w16 (f_R_pop_v N) := by
  have hsp := h.sp
  have g2 := h.2.1.2.1
  have w1 : w16 ((N 0 18 + (1 : Int32)) &&& (65535 : Int32)) := and_lt (by decide)
  have e2 : f_R_pop_m N = mst (mst N 0 18 ((N 0 18 + (2 : Int32)) &&& (65535 : Int32))) 0 20 ((mst N 0 18 ((N 0 18 + (2 : Int32)) &&& (65535 : Int32))) 0 20 + (2 : Int32)) := by
    funext c j
    unfold f_R_pop_m f_R_reads_m; dsimp only
    have i2 := inc2 hsp
    by_cases hc : c = 0
    · subst hc
      by_cases h1 : j = 18
      · subst h1; simp only [mst_eq, mst_ne (show ¬ 18 = 20 by decide), mst_ne (show ¬ 20 = 18 by decide)]; rw [i2]
      · by_cases h2 : j = 20
        · subst h2; simp only [mst_eq, mst_ne (show ¬ 18 = 20 by decide), mst_ne (show ¬ 20 = 18 by decide)]; rw [Int32.add_assoc]; rfl
        · simp only [mst_ne h1, mst_ne h2]
    · simp only [mst_no hc]
  have e1 : f_Q_pop_m M = mst (mst M 5 7 ((N 0 18 + (2 : Int32)) &&& (65535 : Int32))) 5 10 ((mst M 5 7 ((N 0 18 + (2 : Int32)) &&& (65535 : Int32))) 5 10 + (2 : Int32)) := by
    unfold f_Q_pop_m; dsimp only; rw [g2]
  have h1 := p_sp h (v := (N 0 18 + (2 : Int32)) &&& (65535 : Int32)) (and_lt (by decide))
  have r1 := l_rd h hsp
  refine ⟨by rw [e1, e2]; exact h1.tr (p_tick h1.1 2), ?_, (so_R_pop N h.2.2.1).2.2⟩
  unfold f_Q_pop_v f_R_pop_v; dsimp only
  have e3 : mst (f_R_reads_m N (N 0 18)) 0 18 (((f_R_reads_m N (N 0 18)) 0 18 + (1 : Int32)) &&& (65535 : Int32)) 0 18 = (N 0 18 + (1 : Int32)) &&& (65535 : Int32) := by
    rw [mst_eq]; unfold f_R_reads_m; (try dsimp only); rw [mst_ne (by decide)]
  have s1 := p_tick h 1
  have s2 := p_sp s1.1 (v := (N 0 18 + (1 : Int32)) &&& (65535 : Int32)) w1
  have e4 : mst (f_R_reads_m N (N 0 18)) 0 18 (((f_R_reads_m N (N 0 18)) 0 18 + (1 : Int32)) &&& (65535 : Int32)) = mst (mst N 0 20 (N 0 20 + (1 : Int32))) 0 18 ((N 0 18 + (1 : Int32)) &&& (65535 : Int32)) := by
    unfold f_R_reads_m; (try dsimp only); rw [mst_ne (c := 0) (k := 20) (i := 18) (by decide)]
  have r2 := l_rd s2.1 w1
  rw [ld5, ld5] at r2
  rw [e3, e4, g2, r1.1, r2.1]
