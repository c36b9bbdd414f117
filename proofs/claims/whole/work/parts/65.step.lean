/-! A step, and the cycles that follow it. -/
def IM (M N : Mem) : Prop := isB (N 0 21) ∧ isB (N 0 24) ∧ M 5 3 = N 0 21 ∧ M 5 9 = (if N 0 21 = 0 then N 0 24 else 0)
def RS (d : Int32) (ρ : Nat → Int32) (M N : Mem) : Prop := RM M N ∧ (M 17 = N 8 ∧ M 5 7 = N 0 18 ∧ M 5 8 = N 0 19) ∧ SR d ρ N ∧ FZ N ∧ DR N ∧ oct d
def RF (M N : Mem) : Prop := M 13 = N 7 ∧ M 5 0 = N 0 47 ∧ M 5 2 = N 0 49 ∧ M 5 4 = N 0 22 ∧ M 5 5 = N 0 23
def RZ (d : Int32) (ρ : Nat → Int32) (M N : Mem) : Prop := RS d ρ M N ∧ RF M N ∧ isB (N 0 23) ∧ (N 0 23 = 0 → IM M N)
theorem RX.s {d : Int32} {ρ : Nat → Int32} {M N : Mem} (h : RX d ρ M N) : RS d ρ M N := ⟨h.1, ⟨h.2.1.1, h.2.1.2.1, h.2.1.2.2.1⟩, h.2.2⟩
theorem RS.x {d : Int32} {ρ : Nat → Int32} {M N : Mem} (h : RS d ρ M N) (x : Int32) : RX d ρ (mst M 5 10 x) (mst N 0 20 x) := by
  obtain ⟨hm, ⟨g1, g2, g3⟩, sN, fz, dr, hd⟩ := h
  refine ⟨(hm.m (Or.inl rfl) _).n0 (by decide) (by decide) _, ⟨?_, ?_, ?_, ?_⟩, SR.sf sN (by decide) (any_rng _), ?_, dr.n (Or.inr (by decide)) _, hd⟩
  · rw [mst_no (by decide), mst_no (by decide)]; exact g1
  · rw [mst_ne (by decide), mst_ne (by decide)]; exact g2
  · rw [mst_ne (by decide), mst_ne (by decide)]; exact g3
  · rw [mst_eq, mst_eq]
  · unfold FZ; rw [mst_no (by decide)]; exact fz
theorem RS.n {d : Int32} {ρ : Nat → Int32} {M N : Mem} (h : RS d ρ M N) {j : Nat} (hj : (j ≤ 7 ∨ 17 ≤ j) ∧ ¬ j = 33 ∧ ¬ j = 37 ∧ ¬ j = 45) (hp : pt.all (fun q => q.2.2 != j) = true) (hr : ¬ j = 18 ∧ ¬ j = 19 ∧ ¬ j = 25) {v : Int32} (hv : rLo j ≤ v.toInt ∧ v.toInt < rHi j) : RS d ρ M (mst N 0 j v) := by
  obtain ⟨hm, ⟨g1, g2, g3⟩, sN, fz, dr, hd⟩ := h
  refine ⟨hm.n0 hj hp _, ⟨?_, ?_, ?_⟩, SR.sf sN hr.2.2 hv, ?_, dr.n (Or.inr hj.2.2.2) _, hd⟩
  · rw [mst_no (by decide)]; exact g1
  · rw [mst_ne (Ne.symm hr.1)]; exact g2
  · rw [mst_ne (Ne.symm hr.2.1)]; exact g3
  · unfold FZ; rw [mst_no (by decide)]; exact fz
theorem RS.m {d : Int32} {ρ : Nat → Int32} {M N : Mem} (h : RS d ρ M N) {k : Nat} (hk : ¬ k = 7 ∧ ¬ k = 8) (v : Int32) : RS d ρ (mst M 5 k v) N := by
  obtain ⟨hm, ⟨g1, g2, g3⟩, r⟩ := h
  refine ⟨hm.m (Or.inl rfl) _, ⟨?_, ?_, ?_⟩, r⟩
  · rw [mst_no (by decide)]; exact g1
  · rw [mst_ne (Ne.symm hk.1)]; exact g2
  · rw [mst_ne (Ne.symm hk.2)]; exact g3
theorem RX.n {d : Int32} {ρ : Nat → Int32} {M N : Mem} (h : RX d ρ M N) {j : Nat} (hj : (j ≤ 7 ∨ 17 ≤ j) ∧ ¬ j = 33 ∧ ¬ j = 37 ∧ ¬ j = 45) (hp : pt.all (fun q => q.2.2 != j) = true) (hr : ¬ j = 18 ∧ ¬ j = 19 ∧ ¬ j = 25) (h20 : ¬ j = 20) {v : Int32} (hv : rLo j ≤ v.toInt ∧ v.toInt < rHi j) : RX d ρ M (mst N 0 j v) := by
  have s := h.s.n hj hp hr hv
  exact ⟨s.1, ⟨s.2.1.1, s.2.1.2.1, s.2.1.2.2, by rw [mst_ne (Ne.symm h20)]; exact h.2.1.2.2.2⟩, s.2.2⟩
theorem RX.m {d : Int32} {ρ : Nat → Int32} {M N : Mem} (h : RX d ρ M N) {k : Nat} (hk : ¬ k = 7 ∧ ¬ k = 8) (h10 : ¬ k = 10) (v : Int32) : RX d ρ (mst M 5 k v) N := by
  have s := h.s.m hk v
  exact ⟨s.1, ⟨s.2.1.1, s.2.1.2.1, s.2.1.2.2, by rw [mst_ne (Ne.symm h10)]; exact h.2.1.2.2.2⟩, s.2.2⟩
/-- before and behind the instruction itself -/
def PF (s : Int32) (M N : Mem) : Prop := RF M N ∧ N 0 22 = 0 ∧ N 0 23 = 0 ∧ N 0 24 = 0 ∧ M 5 9 = 0 ∧ isB s ∧ isB (N 0 21) ∧ M 5 3 = (if N 0 21 = 0 then s else 1)
def imS (s i : Int32) (N : Mem) : Mem := if s = 0 then N else if i = (243 : Int32) then N else mst N 0 21 (1 : Int32)
def MID (d : Int32) (ρ : Nat → Int32) (s i : Int32) (M N : Mem) : Prop := RX d ρ M N ∧ RF M N ∧ isB (N 0 23) ∧ (N 0 23 = 0 → 0 ≤ (M 5 10).toInt ∧ IM M (imS s i N))
theorem RF.si {d : Int32} {ρ : Nat → Int32} {M N M' N' : Mem} (p : RF M N) (h : SI d ρ M N M' N') : RF M' N' := by
  obtain ⟨p1, p2, p3, p4, p5⟩ := p
  obtain ⟨-, k1, k2, k3, k4⟩ := h
  exact ⟨by rw [k3, k4, p1], by rw [k1 0 (by decide) (by decide) (by decide), k2 47 (by decide), p2], by rw [k1 2 (by decide) (by decide) (by decide), k2 49 (by decide), p3], by rw [k1 4 (by decide) (by decide) (by decide), k2 22 (by decide), p4], by rw [k1 5 (by decide) (by decide) (by decide), k2 23 (by decide), p5]⟩
theorem PF.si {d : Int32} {ρ : Nat → Int32} {s : Int32} {M N M' N' : Mem} (p : PF s M N) (h : SI d ρ M N M' N') : PF s M' N' := by
  obtain ⟨p0, p1, p2, p3, p4, p5, p6, p7⟩ := p
  have p0' := p0.si h
  obtain ⟨-, k1, k2, k3, k4⟩ := h
  refine ⟨p0', ?_, ?_, ?_, ?_, p5, ?_, ?_⟩
  · rw [k2 22 (by decide), p1]
  · rw [k2 23 (by decide), p2]
  · rw [k2 24 (by decide), p3]
  · rw [k1 9 (by decide) (by decide) (by decide), p4]
  · rw [k2 21 (by decide)]; exact p6
  · rw [k1 3 (by decide) (by decide) (by decide), k2 21 (by decide), p7]
theorem mid_plain {d : Int32} {ρ : Nat → Int32} {s i : Int32} {M N : Mem} (h : RX d ρ M N) (p : PF s M N) (ht : 0 ≤ (M 5 10).toInt) (hi : ¬ i = (243 : Int32)) : MID d ρ s i M N := by
  obtain ⟨p0, p1, p2, p3, p4, p5, p6, p7⟩ := p
  refine ⟨h, p0, Or.inl p2, fun _ => ⟨ht, ?_⟩⟩
  unfold imS IM
  rcases p5 with e | e <;> subst e
  · rw [if_pos rfl, p3, p4, p7]
    refine ⟨p6, Or.inl rfl, ?_, ?_⟩
    · rcases p6 with b | b <;> rw [b] <;> rfl
    · split <;> rfl
  · rw [if_neg (by decide), if_neg hi, mst_eq, mst_ne (by decide), p3, p4, p7]
    refine ⟨Or.inr rfl, Or.inl rfl, ?_, rfl⟩
    split <;> rfl
theorem mid_lock {d : Int32} {ρ : Nat → Int32} {s i : Int32} {M N : Mem} (h : RX d ρ M N) (p : PF s M N) : MID d ρ s i (mst M 5 5 (1 : Int32)) (mst N 0 23 (1 : Int32)) := by
  obtain ⟨⟨q1, q2, q3, q4, q5⟩, p1, p2, p3, p4, p5, p6, p7⟩ := p
  refine ⟨(h.m (by decide) (by decide) _).n (by decide) (by decide) (by decide) (by decide) (any_rng _), ⟨?_, ?_, ?_, ?_, ?_⟩, ?_, ?_⟩
  · rw [mst_no (by decide), mst_no (by decide)]; exact q1
  · rw [mst_ne (by decide), mst_ne (by decide)]; exact q2
  · rw [mst_ne (by decide), mst_ne (by decide)]; exact q3
  · rw [mst_ne (by decide), mst_ne (by decide)]; exact q4
  · rw [mst_eq, mst_eq]
  · rw [mst_eq]; exact Or.inr rfl
  · rw [mst_eq]; exact fun e => absurd e (by decide)
theorem mid_halt {d : Int32} {ρ : Nat → Int32} {s i : Int32} {M N : Mem} (h : RX d ρ M N) (p : PF s M N) (ht : 0 ≤ (M 5 10).toInt) (hi : ¬ i = (243 : Int32)) : MID d ρ s i (mst M 5 4 (1 : Int32)) (mst N 0 22 (1 : Int32)) := by
  obtain ⟨-, -, -, m4⟩ := mid_plain h p ht hi
  obtain ⟨⟨q1, q2, q3, q4, q5⟩, p1, p2, p3, p4, p5, p6, p7⟩ := p
  refine ⟨(h.m (by decide) (by decide) _).n (by decide) (by decide) (by decide) (by decide) (any_rng _), ⟨?_, ?_, ?_, ?_, ?_⟩, ?_, ?_⟩
  · rw [mst_no (by decide), mst_no (by decide)]; exact q1
  · rw [mst_ne (by decide), mst_ne (by decide)]; exact q2
  · rw [mst_ne (by decide), mst_ne (by decide)]; exact q3
  · rw [mst_eq, mst_eq]
  · rw [mst_ne (by decide), mst_ne (by decide)]; exact q5
  · rw [mst_ne (by decide)]; exact Or.inl p2
  · intro _
    refine ⟨by rw [mst_ne (by decide)]; exact ht, ?_⟩
    have m5 := (m4 p2).2
    have e : ∀ j : Nat, j = 21 ∨ j = 24 → imS s i (mst N 0 22 (1 : Int32)) 0 j = imS s i N 0 j := by
      intro j hj
      unfold imS
      rcases hj with e | e <;> subst e <;> (repeat' split) <;> simp only [mst_eq, mst_ne (show ¬ 21 = 22 by decide), mst_ne (show ¬ 24 = 22 by decide), mst_ne (show ¬ 24 = 21 by decide)]
    unfold IM at m5 ⊢
    rw [e 21 (by decide), e 24 (by decide), mst_ne (by decide), mst_ne (by decide)]
    exact m5
theorem mid_reti {d : Int32} {ρ : Nat → Int32} {s i : Int32} {M N : Mem} (h : RX d ρ M N) (p : PF s M N) (ht : 0 ≤ (M 5 10).toInt) (hi : ¬ i = (243 : Int32)) : MID d ρ s i (mst M 5 3 (1 : Int32)) (mst N 0 21 (1 : Int32)) := by
  obtain ⟨⟨q1, q2, q3, q4, q5⟩, p1, p2, p3, p4, p5, p6, p7⟩ := p
  refine ⟨(h.m (by decide) (by decide) _).n (by decide) (by decide) (by decide) (by decide) (any_rng _), ⟨?_, ?_, ?_, ?_, ?_⟩, ?_, ?_⟩
  · rw [mst_no (by decide), mst_no (by decide)]; exact q1
  · rw [mst_ne (by decide), mst_ne (by decide)]; exact q2
  · rw [mst_ne (by decide), mst_ne (by decide)]; exact q3
  · rw [mst_ne (by decide), mst_ne (by decide)]; exact q4
  · rw [mst_ne (by decide), mst_ne (by decide)]; exact q5
  · rw [mst_ne (by decide)]; exact Or.inl p2
  · intro _
    refine ⟨by rw [mst_ne (by decide)]; exact ht, ?_⟩
    have e : imS s i (mst N 0 21 (1 : Int32)) = mst N 0 21 (1 : Int32) := by
      unfold imS; rw [mst_mst]; repeat' split
      all_goals rfl
    unfold IM
    rw [e, mst_eq, mst_eq, mst_ne (by decide), mst_ne (by decide), p3, p4]
    exact ⟨Or.inr rfl, Or.inl rfl, rfl, rfl⟩
theorem sw_1 {M : Mem} (hb : isB (M 5 3)) : f_Q_switchInterrupts_m M (1 : Int32) = mst M 5 9 (if M 5 3 = 0 then 1 else 0) := by
  unfold f_Q_switchInterrupts_m f_Q_switchInterrupts_j1_m f_Q_switchInterrupts_j4_m f_Q_switchInterrupts_j1_m f_Q_switchInterrupts_j2_m f_Q_switchInterrupts_j3_m f_Q_switchInterrupts_j2_m; dsimp only
  simp only [mst_ne (show ¬ 3 = 9 by decide)]
  rcases hb with b | b <;> simp (decide := true) only [b, if_true, if_false]
  · exact mst_self _ _ _ (by rw [mst_ne (by decide)]; exact b)
  · exact mst_self _ _ _ (by rw [mst_ne (by decide)]; exact b)
theorem sw_0 (M : Mem) : f_Q_switchInterrupts_m M (0 : Int32) = mst (mst M 5 9 (0 : Int32)) 5 3 (0 : Int32) := by
  unfold f_Q_switchInterrupts_m f_Q_switchInterrupts_j4_m f_Q_switchInterrupts_j1_m f_Q_switchInterrupts_j3_m f_Q_switchInterrupts_j2_m; dsimp only
  rw [if_pos rfl]; repeat' split
  all_goals first | rfl | exact absurd rfl ‹¬ (0 : Int32) = 0›
theorem PF.b {s : Int32} {M N : Mem} (p : PF s M N) : isB (M 5 3) := by
  obtain ⟨-, -, -, -, -, p5, p6, p7⟩ := p
  rw [p7]; split
  · exact p5
  · exact Or.inr rfl
theorem mid_ei {d : Int32} {ρ : Nat → Int32} {s i : Int32} {M N : Mem} (h : RX d ρ M N) (p : PF s M N) (ht : 0 ≤ (M 5 10).toInt) (hi : ¬ i = (243 : Int32)) : MID d ρ s i (f_Q_switchInterrupts_m M (1 : Int32)) (mst N 0 24 (1 : Int32)) := by
  rw [sw_1 p.b]
  obtain ⟨⟨q1, q2, q3, q4, q5⟩, p1, p2, p3, p4, p5, p6, p7⟩ := p
  refine ⟨(h.m (by decide) (by decide) _).n (by decide) (by decide) (by decide) (by decide) (any_rng _), ⟨?_, ?_, ?_, ?_, ?_⟩, ?_, ?_⟩
  · rw [mst_no (by decide), mst_no (by decide)]; exact q1
  · rw [mst_ne (by decide), mst_ne (by decide)]; exact q2
  · rw [mst_ne (by decide), mst_ne (by decide)]; exact q3
  · rw [mst_ne (by decide), mst_ne (by decide)]; exact q4
  · rw [mst_ne (by decide), mst_ne (by decide)]; exact q5
  · rw [mst_ne (by decide)]; exact Or.inl p2
  · intro _
    refine ⟨by rw [mst_ne (by decide)]; exact ht, ?_⟩
    unfold imS IM
    rcases p5 with e | e <;> subst e
    · rw [if_pos rfl, mst_eq, mst_eq, mst_ne (by decide), mst_ne (by decide), p7]
      rcases p6 with b | b <;> rw [b]
      · exact ⟨Or.inl rfl, Or.inr rfl, rfl, rfl⟩
      · exact ⟨Or.inr rfl, Or.inr rfl, rfl, rfl⟩
    · rw [if_neg (by decide), if_neg hi]; simp only [mst_eq, mst_ne (show ¬ 24 = 21 by decide), mst_ne (show ¬ 3 = 9 by decide)]; rw [p7]
      rcases p6 with b | b <;> rw [b]
      · exact ⟨Or.inr rfl, Or.inr rfl, rfl, rfl⟩
      · exact ⟨Or.inr rfl, Or.inr rfl, rfl, rfl⟩
theorem mid_di {d : Int32} {ρ : Nat → Int32} {s i : Int32} {M N : Mem} (h : RX d ρ M N) (p : PF s M N) (ht : 0 ≤ (M 5 10).toInt) (hi : i = (243 : Int32)) : MID d ρ s i (f_Q_switchInterrupts_m M (0 : Int32)) (mst N 0 21 (0 : Int32)) := by
  rw [sw_0]
  obtain ⟨⟨q1, q2, q3, q4, q5⟩, p1, p2, p3, p4, p5, p6, p7⟩ := p
  refine ⟨((h.m (by decide) (by decide) _).m (by decide) (by decide) _).n (by decide) (by decide) (by decide) (by decide) (any_rng _), ⟨?_, ?_, ?_, ?_, ?_⟩, ?_, ?_⟩
  · rw [mst_no (by decide), mst_no (by decide), mst_no (by decide)]; exact q1
  · rw [mst_ne (by decide), mst_ne (by decide), mst_ne (by decide)]; exact q2
  · rw [mst_ne (by decide), mst_ne (by decide), mst_ne (by decide)]; exact q3
  · rw [mst_ne (by decide), mst_ne (by decide), mst_ne (by decide)]; exact q4
  · rw [mst_ne (by decide), mst_ne (by decide), mst_ne (by decide)]; exact q5
  · rw [mst_ne (by decide)]; exact Or.inl p2
  · intro _
    refine ⟨by rw [mst_ne (by decide), mst_ne (by decide)]; exact ht, ?_⟩
    have e : imS s i (mst N 0 21 (0 : Int32)) = mst N 0 21 (0 : Int32) := by
      unfold imS; rw [if_pos hi]; split <;> rfl
    unfold IM
    rw [e, mst_eq, mst_eq, mst_ne (by decide), mst_ne (by decide), mst_eq, p3]
    exact ⟨Or.inl rfl, Or.inl rfl, rfl, rfl⟩
