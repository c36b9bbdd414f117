/-! A call that throws, and its catch: the law's helpers. -/
theorem PreX_blind {D : va_G} {ce : Mem → va_W} {cA : ClassId} {tb : Nat → Nat} {av : List Value} {M : Mem} {sz : Nat} : FrameBlind (PreX D ce cA tb av M sz) := by
  intro a U g mk q
  exact ⟨PreC_blind _ _ _ _ q.1, Tx.same (u := U) (U := U.calling g mk a) rfl q.2⟩
def PostT (Qc : Array Value → State → Outcome → State → Prop) (free : Addr → Prop) : Pt → Array Value → Addr → Pt → Prop := fun A a x B =>
  ∃ (g : JFrame) (mk : MethodId) (t : State) (L : List Loc), B.U.heap = t.heap ∧ B.U.vm = t.vm ∧ Qc a (A.U.calling g mk a) (.threw x) t ∧ B.locs = A.locs ++ L ∧ (∀ q ∈ L, free q.base) ∧ B.cells = A.cells + 1 ∧ B.slots = A.slots + 6
section CATCH0
variable {l : Launch} {R : Room} {p : Program} {e : Env} {below : List Frame} {s : State} {sargs : Array Value} {y : MethodName} {len Wn : Nat}
theorem backX {ws : List Cond} {rm : Room} {Pc : Array Value → State → Prop} {Qc : Array Value → State → Outcome → State → Prop} {free : Addr → Prop} {bytes : ByteArray} {maxL : Nat} {ret : Option FieldType}
    (hM : MetFree l y (headSpec ws rm) Pc (fun _ _ _ _ _ => True) (EndX Qc free)) (hthr : ∀ a st o t, Qc a st o t → ∃ x, o = .threw x) (hblind : FrameBlind Pc) (hrc : rm.cells = 1) (hrs : rm.slots = 6)
    (hframes : rm.frames + 1 ≤ R.frames) (hlocals : Wn + (maxL + 11) + rm.locals ≤ R.locals)
    (hws : ∀ w ∈ ws, ∀ a' U, s.WarmedH U.vm → w.before a' U = true) (hcode : Cond.code y bytes maxL ret ∈ ws) (hinit : ∀ a' U, s.WarmedH U.vm → (Cond.initialized y.cls).before a' U = true) :
    BackT l R p e below s sargs y len Wn (PreOf R 1 6 Pc) (PostT Qc free) := by
  refine BackT.of_free (S := headSpec ws rm) (P := Pc) (K := fun _ _ _ _ _ => True) (Q := EndX Qc free) (bytes := bytes) (maxL := maxL) (ret := ret)
    (E := fun a st o t L k n => k = 1 ∧ n = 6 ∧ ∀ q ∈ L, free q.base) hM hframes hlocals ?_ ?_ (fun _ _ _ _ _ _ _ _ _ => trivial) ?_ ?_
  · intro m meth c A a X hp
    exact ⟨atoms_intro fun w hw => hws w hw _ _ X.warmed, hws _ hcode _ _ X.warmed, hinit _ _ X.warmed, by rw [show (headSpec ws rm).room.cells = 1 from hrc]; exact hp.1, by rw [show (headSpec ws rm).room.slots = 6 from hrs]; exact hp.2.1⟩
  · intro m meth c A a g mk X hp
    exact hblind _ _ _ _ hp.2.2
  · intro a st o t ⟨hq, L, hW, hF, hL⟩
    exact ⟨L, 1, 6, ⟨hthr _ _ _ _ hq, hW, hF⟩, rfl, rfl, hL⟩
  · intro m meth c A a g mk v t L k n X hp hq hF ⟨e1, e2, hL⟩
    subst e1; subst e2
    exact ⟨g, mk, t, L, rfl, rfl, hq.1, rfl, hL, rfl, rfl⟩
end CATCH0
section CATCH1
variable {p : Program} {l : Launch} {e : Env} {R : Room} {s : State} {m : MethodId} {args : Array Value} {below : List Frame} {meth : Method} {c : Code} {T : State} {locs : List Loc} {cells slots : Nat}
theorem callVX (X : Stand p l e R s m args below meth c T locs cells slots) (hexec : p.tables.exec = Jvm.exec) {own C : String} {index : Nat} {y : MethodName} {bytes : ByteArray} {maxL : Nat} {ret : Option FieldType}
    (hown : s.vm.findClass own = some m.cls) (hlink : (Cond.methodLink own index y).before args s = true) (hinst : (Cond.instanceMethod y).before args s = true) (hsel : (Cond.selects C y y).before args s = true)
    (hcode : (Cond.code y bytes maxL ret).before args s = true) (hy : y.cls ≠ "java/lang/invoke/MethodHandle" ∧ y.cls ≠ "java/lang/invoke/VarHandle")
    {Wn : Nat} {Pre : Pt → Array Value → Prop} {Post : Pt → Array Value → Addr → Pt → Prop} (hK : BackT l R p e below s args y 3 Wn Pre Post)
    {b : Addr} {cellB : Cell} (hcell : T.heap[b]? = some cellB) (hobj : cellB.vm.isStatics = false) (hcls : s.vm.findClass C = some cellB.cls)
    {g : JFrame} (hg : g.method = m) (hsize : g.locals.size = c.maxLocals) {argsL rest : List Value} (hlen : ∀ sig, parseMethodDescriptor y.desc = some sig → argsL.length = sig.parameters.length)
    (hstack : g.stack = argsL.reverse ++ .ref b :: rest) (hW : 2 * g.monitorRoom + (rest.map fun v => v.category).sum ≤ Wn) (hdg : decode c.code g.pc = .ok (.invokevirtual index, 3))
    (hpre : ∀ vm₁, s.WarmedH vm₁ → Pre ⟨T.setVm vm₁, locs, cells, slots⟩ (Value.ref b :: argsL).toArray) :
    ∃ (x : Addr) (vm₁ : Vm) (B : Pt), s.WarmedH vm₁ ∧ Stand p l e R s m args below meth c B.U B.locs B.cells B.slots ∧ Post ⟨T.setVm vm₁, locs, cells, slots⟩ (Value.ref b :: argsL).toArray x B ∧
      Steps p.tables e below (T.setTop g) ((B.U.setTop { g with stack := rest }).pushFrame (.throwing x)) := by
  obtain ⟨mk, methM, hnamed, hmethM, hstM, habM⟩ := Cond.instanceMethod_spec hinst
  obtain ⟨methM', cM, hmethM', -, -, -, -, -, -, hsigM⟩ := Cond.code_spec hnamed hcode
  cases hmethM.symm.trans hmethM'
  obtain ⟨c2, r2, m2, q1, q2, q3, q4, kP, hkP, hkPi⟩ := Cond.selects_spec hsel
  cases hcls.symm.trans q1
  cases (State.methodFound?_of_named hnamed hy).symm.trans q2
  cases hnamed.symm.trans q3
  have hselP : selectMethod e.platform s.vm cellB.cls mk = .method mk := by rw [Launch.admits_selectMethod X.admits]; exact q4
  obtain ⟨vm₁, X₁, hstep₁⟩ := X.invokevirtual hexec hown hlink hnamed hmethM hstM hkP hkPi hy (a := b) (cell := cellB) hcell
    (fun z h => by rw [h] at hobj; cases hobj) hselP hmethM habM hkP hkPi (g := g) hg (argsL := argsL) (rest := rest) (hlen _ hsigM) hstack hdg
  obtain ⟨v, B, X', hpost, hsteps⟩ := hK m meth c ⟨T.setVm vm₁, locs, cells, slots⟩ { g with stack := rest } (.invokevirtual index) mk (Value.ref b :: argsL).toArray X₁ hg hsize hdg hW (X₁.named hnamed) (hpre vm₁ X₁.warmed)
  exact ⟨v, vm₁, B, X₁.warmed, X', hpost, (hstep₁ _ fun acts => by rw [doInvoke_state]; exact Steps.refl _).trans hsteps⟩
end CATCH1
theorem tb_split {k hp E : Nat} {lct : Nat → Nat} : ∀ {hs : List (Nat × Nat)} {tbl : List ExceptionTableEntry}, tbl.map (fun h => (h.startPc, h.endPc, h.handlerPc, h.catchType)) = hs.map (fun h => (0, E, h.2, lct h.1)) → hs.find? (fun h => h.1 == k) = some (k, hp) →
    ∃ pre x rest, tbl = pre ++ x :: rest ∧ (∀ y ∈ pre, ∃ h ∈ hs, h.1 ≠ k ∧ y.catchType = lct h.1) ∧ x.startPc = 0 ∧ x.endPc = E ∧ x.handlerPc = hp ∧ x.catchType = lct k := by
  intro hs
  induction hs with
  | nil => intro tbl _ h; cases h
  | cons h0 hs ih =>
    intro tbl ht hf
    cases tbl with
    | nil => cases ht
    | cons y tbl =>
      simp only [List.map_cons, List.cons.injEq, Prod.mk.injEq] at ht
      obtain ⟨⟨e1, e2, e3, e4⟩, ht⟩ := ht
      rw [List.find?_cons] at hf
      by_cases hk : h0.1 = k
      · have : (h0.1 == k) = true := by simp [hk]
        rw [this] at hf
        cases hf
        exact ⟨[], y, tbl, rfl, (fun z hz => absurd hz List.not_mem_nil), e1, e2, e3, e4⟩
      · have : (h0.1 == k) = false := by simp [hk]
        rw [this] at hf
        obtain ⟨pre, x, rest, g1, g2, g3⟩ := ih ht hf
        refine ⟨y :: pre, x, rest, by rw [g1]; rfl, ?_, g3⟩
        intro z hz
        rcases List.mem_cons.mp hz with rfl | hz
        · exact ⟨h0, List.mem_cons_self, hk, e4⟩
        · obtain ⟨h, h1, h2⟩ := g2 z hz
          exact ⟨h, List.mem_cons_of_mem _ h1, h2⟩
section CATCH2
variable {p : Program} {l : Launch} {e : Env} {R : Room} {s : State} {m : MethodId} {args : Array Value} {below : List Frame} {meth : Method} {c : Code} {H : Heap} {locs : List Loc} {QQ : State → Prop}
variable {cc : ByteArray} {pc nL : Nat} {ls : Array Slot} {rest st0 As : List Value} {D : va_G} {ce : Mem → va_W} {cA : ClassId} {tb : Nat → Nat} {A : Nat → Prop} {own : String} {M : Mem}
variable {y : MethodName} {ws : List Cond} {rm : Room} {b ci idx n maxL N : Nat} {fs : List Value} {Cn : String} {Tn : u_T} {bytes : ByteArray} {ret : Option FieldType} {mQ : Option Value → Mem → Prop}
/-- a call that returns; the caller hears that the rest is as it was -/
theorem hc_ret {j : Nat} (hC : Cx p m c cc nL s args own D ce cA tb A) (hw : Wd D ce A s H locs M) (hM : Ct l y ws rm D ce cA tb (.ref b :: As) M mQ) (hl : Cond.methodLink own idx y ∈ WA) (hm : Mw y Cn bytes maxL ret n) (hws : ws = Cond.code y bytes maxL ret :: WA)
    (hR : rm.cells = 0 ∧ rm.slots = 0 ∧ rm.frames + 1 ≤ R.frames ∧ 8 + (maxL + 11) + rm.locals ≤ R.locals) (hj : (ce M)[j]? = some (b, .inr (ci, fs))) (hcl : vcl[ci]? = some (Cn, Tn, N)) (hn : As.length = n) (hsz : ls.size = nL) (hst : st0 = As.reverse ++ .ref b :: rest) (hrm : (rest.map fun v => v.category).sum ≤ 8) (hdg : decode cc pc = .ok (.invokevirtual idx, 3))
    (kk : ∀ (r : Option Value) (M' : Mem) (H' : Heap) (locs' : List Loc), mQ r M' → Wd D ce A s H' locs' M' → (∀ q : Nat, q < H.size → ¬ va_A (ce M) H.size q → H'[q]? = H[q]?) → W p l e R s m args below meth c H' locs' 0 0 QQ (F0 m (pc + 3) ls (r.toList ++ rest))) : W p l e R s m args below meth c H locs 0 0 QQ (F0 m pc ls st0) := by
  subst hws
  have cw : CallW R s args own Cn idx y bytes maxL ret (Cond.code y bytes maxL ret :: WA) rm 0 0 n := cwV n hC.1.2.2.2.2 (gd_V hl hm) rfl hR.1 hR.2.1 hm.2.2.2.2 hR.2.2
  have hr := va_runV (e := e) (below := below) (meth := meth) (locs := locs) (cells := 0) (slots := 0) (g := F0 m pc ls st0) (As := As) (rest := rest) (b := b) hC.1 (hM H.size) cw ⟨PreC_blind, va_recv hC.2.1 hw.1 hcl hj, hC.pre hw _⟩ rfl hn hsz hst (lv_room hrm) hdg ⟨Nat.zero_le _, Nat.zero_le _⟩
  have hA := hC.sub hw
  obtain ⟨hP, hS⟩ := hw
  intro T hT X
  obtain ⟨v, st₀, t, T', L, h0, X', hL, e1, e2, ⟨r, M', hv, hq, hP', hz, hk⟩, st⟩ := hr T hT X
  have hvr : v = r := by cases hv; rfl
  subst hvr
  rw [h0] at hz hk
  obtain ⟨t2, a1, b1⟩ := kk v M' T'.heap (locs ++ L) hq ⟨by rw [e1]; exact hP', ⟨Nat.le_trans hS.1 (by rw [e1]; exact hz), fun q h1 h2 => by rw [e1, hk q (Nat.lt_of_lt_of_le h1 hS.1) (fun z => h2 (hA q z))]; exact hS.2.1 q h1 h2, fun q hq => by
      rcases List.mem_append.mp hq with h | h
      · exact hS.2.2 q h
      · exact hA _ (hL q h)⟩⟩ (fun q h1 h2 => by rw [e1]; exact hk q h1 h2) T' rfl X'
  exact ⟨t2, st t2 a1, b1⟩
/-- a call that throws, caught here -/
theorem hc_thr {j E : Nat} {hs : List (Nat × Nat)} {lct hpf : Nat → Nat} {Tq : Nat → Mem → Prop} (hC : Cx p m c cc nL s args own D ce cA tb A) (hT0 : Tx A s s.heap) (hw : Wd D ce A s H locs M) (hM : CtX l y ws rm D ce cA tb (.ref b :: As) M Tq) (hl : Cond.methodLink own idx y ∈ WA) (hm : Mw y Cn bytes maxL ret n) (hws : ws = Cond.code y bytes maxL ret :: WA)
    (hR : rm.cells = 1 ∧ rm.slots = 6 ∧ rm.frames + 1 ≤ R.frames ∧ 8 + (maxL + 11) + rm.locals ≤ R.locals) (hRc : 1 ≤ R.cells ∧ 6 ≤ R.slots) (hj : (ce M)[j]? = some (b, .inr (ci, fs))) (hcl : vcl[ci]? = some (Cn, Tn, N)) (hn : As.length = n) (hsz : ls.size = nL) (hst : st0 = As.reverse ++ .ref b :: rest) (hrm : (rest.map fun v => v.category).sum ≤ 8) (hdg : decode cc pc = .ok (.invokevirtual idx, 3))
    (htb : c.exceptionTable.toList.map (fun h => (h.startPc, h.endPc, h.handlerPc, h.catchType)) = hs.map (fun h => (0, E, h.2, lct h.1))) (hE : pc < E) (hfind : ∀ k M', Tq k M' → k < 5 ∧ hs.find? (fun h => h.1 == k) = some (k, hpf k))
    (hlk : ∀ h ∈ hs, h.1 < 5 ∧ lct h.1 ≠ 0 ∧ Cond.classLink own (lct h.1) (xn h.1) ∈ WA)
    (kk : ∀ (x k : Nat) (M' : Mem) (H' : Heap) (locs' : List Loc), Tq k M' → Wd D ce A s H' locs' M' → (∀ q : Nat, q < H.size → ¬ va_A (ce M) H.size q → H'[q]? = H[q]?) → W p l e R s m args below meth c H' locs' 1 6 QQ (F0 m (hpf k) ls [.ref x])) : W p l e R s m args below meth c H locs 0 0 QQ (F0 m pc ls st0) := by
  subst hws
  have cw : CallW R s args own Cn idx y bytes maxL ret (Cond.code y bytes maxL ret :: WA) rm 1 6 n := cwV n hC.1.2.2.2.2 (gd_V hl hm) rfl hR.1 hR.2.1 hm.2.2.2.2 hR.2.2
  obtain ⟨⟨hrc, hrs, hfr, hlo, hws, hcw, hcode, hini, hy, hlen, hlink⟩, hin, hse⟩ := cw
  have hK : BackT l R p e below s args y 3 8 (PreOf R 1 6 (PreX D ce cA tb (.ref b :: As) M H.size)) (PostT (PostX D ce (va_A (ce M) H.size) Tq) (va_A (ce M) H.size)) :=
    backX (bytes := bytes) (maxL := maxL) (ret := ret) (hM H.size) (fun a st o t h => by obtain ⟨x, k, M', h, -⟩ := h; exact ⟨x, h⟩) PreX_blind hrc hrs hfr hlo hws hcw (fun a' U hW => word_at hW (Or.inl (by first | rfl | simp [Cond.onTables, Cond.keeps, Cond.steady])) hini)
  obtain ⟨hx, hb, hml, ho, hts⟩ := hC.1
  obtain ⟨cellB, hcB, hoB, hclB⟩ := va_recv hC.2.1 hw.1 hcl hj
  have hA := hC.sub hw
  have hpre := hC.pre hw (.ref b :: As)
  obtain ⟨hP, hS⟩ := hw
  intro T hT X
  obtain ⟨x, vm₁, ⟨U', l2, c2, s2⟩, hW₁, X', ⟨g', mk, t, L, e1, e2, hq, h1, hL, h2, h3⟩, st⟩ := callVX X hx (C := Cn) (bytes := bytes) (maxL := maxL) (ret := ret) ho hlink hin hse hcode hy hK (by rw [hT]; exact hcB) hoB hclB (g := F0 m pc ls st0) rfl (hsz.trans hml.symm) (argsL := As) (rest := rest) (fun sig h => hn.trans (hlen sig h)) hst (lv_room hrm) (by rw [hb]; exact hdg)
    (fun vm₁ hW₁ => ⟨by show 0 + 1 ≤ _; omega, by show 0 + 6 ≤ _; omega, hpre (T.setVm vm₁) hT hW₁, by
      have q1 : Tx A s H := hT0.kept hS.2.1
      have q2 : Tx A (T.setVm vm₁) H := Tx.warm (U := T.setVm vm₁) hW₁ q1
      have q3 : Tx (va_A (ce M) H.size) (T.setVm vm₁) H := q2.narrow hA
      show Tx (va_A (ce M) H.size) (T.setVm vm₁) T.heap
      rw [hT]; exact q3⟩)
  dsimp only [Pt.U, Pt.locs, Pt.cells, Pt.slots] at X' e1 e2 h1 h2 h3 st
  subst h1; subst h2; subst h3
  obtain ⟨x', k, M', hox, hTk, hP', ⟨hz, hk⟩, -, cell, hcell, hcv, hck⟩ := hq
  cases hox
  have hz : H.size ≤ t.heap.size := by rw [← hT]; exact hz
  have hk : ∀ q : Nat, q < H.size → ¬ va_A (ce M) H.size q → t.heap[q]? = H[q]? := by
    intro q g1 g2
    rw [← hT]
    exact hk q (by show q < T.heap.size; rw [hT]; exact g1) g2
  obtain ⟨hk5, hf⟩ := hfind k M' hTk
  have hkin : (k, hpf k) ∈ hs := List.mem_of_find?_eq_some hf
  obtain ⟨pre, xe, rst, hsplit, hpre', g1, g2, g3, g4⟩ := tb_split htb hf
  have hTc := hT0.2.2.2
  have hpl : e.platform.magicAccessors = ({} : Platform).magicAccessors := by rw [X.admits.platform]
  have hckS : s.vm.findClass (xn k) = some cell.cls := by
    rw [← e2, X'.warmed.alike.findClass] at hck
    exact hck
  obtain ⟨ci1, cj1, f1, f2, f3⟩ := hTc k k hk5 hk5
  cases hckS.symm.trans f1
  cases hckS.symm.trans f2
  have hlkk := hlk _ hkin
  obtain ⟨hcat, hk0⟩ := X'.catches_of_link ho (x := xe) (name := xn k) (by rw [g4]; exact hlkk.2.1) (by rw [g4]; exact hts _ hlkk.2.2) hckS (by rw [f3]; simp)
  have hpass : ∀ z ∈ pre, RowPassed e.platform s m.cls pc cell.cls z := by
    intro z hzp
    obtain ⟨h, hh, hne, hct⟩ := hpre' z hzp
    obtain ⟨i1, i2, i3⟩ := hlk h hh
    have hcl := hts _ i3
    rw [← hct] at hcl
    obtain ⟨c', hc', hcl'⟩ := Cond.classLink_spec ho hcl e.platform hpl
    obtain ⟨ca, cb, w1, w2, w3⟩ := hTc k h.1 hk5 i1
    cases hckS.symm.trans w1
    cases hc'.symm.trans w2
    exact Or.inr ⟨by rw [hct]; exact i2, c', hcl', by rw [w3]; simpa using fun z => hne z.symm⟩
  obtain ⟨vm', XV, st2⟩ := X'.thenCaughtThrough x (g := F0 m pc ls rest) rfl st (cell := cell) (by rw [e1]; exact hcell) (by rw [hcv]; rfl) hk0 pre xe rst hsplit hpass (by simp [covers, g1, g2, hE]) hcat
  obtain ⟨t2, a1, b1⟩ := kk x k M' t.heap (locs ++ L) hTk ⟨hP', ⟨Nat.le_trans hS.1 hz, fun q h1 h2 => by rw [hk q (Nat.lt_of_lt_of_le h1 hS.1) (fun z => h2 (hA q z))]; exact hS.2.1 q h1 h2, fun q hq => by
      rcases List.mem_append.mp hq with h | h
      · exact hS.2.2 q h
      · exact hA _ (hL q h)⟩⟩ hk (U'.setVm vm') e1 XV
  refine ⟨t2, st2.trans ?_, b1⟩
  rw [g3]
  exact a1
end CATCH2
