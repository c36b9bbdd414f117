/-! The law returns 0 at rScr: the claim falls. -/
set_option maxHeartbeats 4000000 in
theorem ref_walk (l : Launch) (hl0 : l.stackTraces = false) (b : Addr) : MetFree l x (headSpec (Jvm.Cond.code x code maxLocals ret :: tables_1) room_1) (fun args s => args = #[.ref b] ∧ s.IntsAt b rScr ∧ (Jvm.Cond.and given_1 narrow_1).before args s = true) (fun _ _ _ _ _ => True) (fun _ _ o _ => o = .returned (some (.int 0))) := by
  refine MetFree.of_bodyS (code := code) (maxLocals := maxLocals) (ret := ret) (by decide) ?_ ?_
  · intro args s m h hn
    obtain ⟨meth, c, h1, h2, h3, h4, h5, h6, -, -⟩ := Cond.code_spec hn (atoms_spec (ws := Jvm.Cond.code x code maxLocals ret :: tables_1) h _ List.mem_cons_self)
    exact ⟨meth, c, h1, h2, h3, h4, h5, h6⟩
  · intro p e s m args below meth c s₁ B hml0 hP _
    obtain ⟨rfl, hx, hgv⟩ := hP
    obtain ⟨scr, harrAt, hlist, hof, hsmall⟩ := hx
    obtain ⟨hcb, hkn, -, -⟩ := State.arrayAt?_spec harrAt
    have hown : s.vm.findClass R_law = some m.cls := findClass_of_methodNamed B.named
    have hts0 : ∀ c ∈ (Jvm.Cond.code x code maxLocals ret :: tables_1), c.before #[Value.ref b] s = true := atoms_spec (ws := Jvm.Cond.code x code maxLocals ret :: tables_1) B.pre
    have hts : ∀ w ∈ lw_tbl, w.before #[Value.ref b] s = true := k2_hts_sels lw_privs (fun w hw => hts0 w (List.mem_cons_of_mem _ hw)) lw_privs_ok
    have hml : c.maxLocals = 9 := B.maxLocals_eq (hts0 _ List.mem_cons_self)
    have X₀ : Stand p l e room_1 s m #[Value.ref b] below meth c s₁ [] 0 0 := Stand.of_body B
    have hh0 : s₁.heap = s.heap := by rw [B.state]; rfl
    have hsz : scr.slots.size = rScr.length := by rw [← Array.length_toList, hlist, List.length_map]
    have hval : ∀ j : Nat, j < rScr.length → scr.slots[j]? = some (.int (rScr.getD j 0)) := fun j hj => by
      rw [← Array.getElem?_toList, hlist]
      simp [hj]
    have hbl : b < s.heap.size := (Array.getElem?_eq_some_iff.mp hcb).1
    have hX : va_X b rScr.length (fun j => rScr.getD j 0) s s.heap := ⟨scr, hcb, hof, hkn, hsz, hval⟩
    have K : W p l e room_1 s m #[Value.ref b] below meth c s₁.heap [] 0 0 (lw_Z0 below) (entryFrame m ([Value.ref b] : List Value).toArray 9) := by
      rw [hh0]
      exact ref_start l hl0 ⟨B.exec, B.bytes, B.returns, hml, hown, hts, hX, hbl, B.notSynchronized, hgv⟩
    obtain ⟨t, a1, o, b1, b2, b3⟩ := K s₁ rfl X₀
    exact ⟨t, o, a1, b1, b2, b3⟩
set_option maxRecDepth 16384 in
theorem r_ints : rAbout.IntsAt 0 rScr := ⟨_, rfl, rfl, ⟨(fun k h => nomatch h), ⟨_, rfl, _, rfl⟩⟩, by decide⟩
theorem refuted : RefutedClaimed_1_2 := by
  obtain ⟨hl, hW, ha, hle, hc, hk, hf, hfit, hheap, happ, hcalls, hrest, hpre⟩ := r_atStart
  obtain ⟨k, o, h1, h2, h3, hQ⟩ := ref_walk launch0 (by decide +kernel) 0 start1.p0 start1.e0 ha hc hk rAbout ⟨0, 0⟩ start1.args0 Lib.HandBits.below0 hf ((Spec.applies_iff_loose hf).mp happ).1 ⟨rfl, r_ints, hpre⟩ trivial
  refine ⟨launch0, start1.p0, start1.e0, rAbout, ⟨0, 0⟩, start1.args0, Lib.HandBits.below0, rfl, r_atStart, k, o, h1, h2, h3, fun hp => ?_⟩
  have h := hp.1
  rw [hQ] at h
  revert h
  simp [postC, limb_1_2, Cond.after, Cond.holds, Cond.value, Term.eval]
/-- so the claim itself is false -/
theorem not_claimed : ¬ (Claimed_1_1 ∧ Claimed_1_2) := by
  intro h
  obtain ⟨hl, hW, ha, hle, hc, hk, hf, hfit, hheap, happ, hcalls, hrest, hpre⟩ := r_atStart
  obtain ⟨k, o, w1, -, e1, hQ⟩ := ref_walk launch0 (by decide +kernel) 0 start1.p0 start1.e0 ha hc hk rAbout ⟨0, 0⟩ start1.args0 Lib.HandBits.below0 hf ((Spec.applies_iff_loose hf).mp happ).1 ⟨rfl, r_ints, hpre⟩ trivial
  obtain ⟨k2, o2, w2, -, e2, hp⟩ := h.2 launch0 rfl hl hW start1.p0 start1.e0 ha hc hk rAbout ⟨0, 0⟩ start1.args0 Lib.HandBits.below0 hf hfit hheap happ ⟨hcalls, hrest, hpre⟩
  have hkk : k = k2 := by
    rcases Nat.lt_or_ge k k2 with a | a
    · exact absurd (w2 k a) e1.not_within
    · rcases Nat.lt_or_ge k2 k with b | b
      · exact absurd (w1 k2 b) e2.not_within
      · omega
  subst hkk
  have ho := e1.outcome_unique e2
  subst ho
  have h2 := hp.1
  rw [hQ] at h2
  revert h2
  simp [postC, limb_1_2, Cond.after, Cond.holds, Cond.value, Term.eval]
