/-! A public method that throws: its contract, and the five instructions that make and throw the exception. -/
def xn : Nat → String
  | 0 => "java/lang/IllegalArgumentException"
  | 1 => "java/lang/IndexOutOfBoundsException"
  | 2 => "java/lang/IllegalStateException"
  | 3 => "java/lang/UnsupportedOperationException"
  | _ => "java/lang/ArithmeticException"
/-- a static field of a class that is laid: the class's statics cell is there, and nobody writes it -/
def LSt (C n d : String) (A : Nat → Prop) (U : State) (H : Heap) : Prop := ∃ (c : ClassId) (k : Class) (i : Nat) (f : Field) (a : Addr) (cell : Cell), U.vm.findClass C = some c ∧ U.fieldFound? C n d = some (c, k, i, f) ∧ f.isStatic = true ∧ k.statics = some a ∧ H[a]? = some cell ∧ cell.vm.isStatics = true ∧ cell.cls = c ∧ f.slot < cell.slots.size ∧ k.staticTypes[f.slot]? = some f.type ∧ ¬ A a
theorem LSt.of {C n d : String} {A : Nat → Prop} {U : State} {args : Array Value} (h : (Cond.laysStatic C n d).before args U = true) (hA : ∀ a : Nat, a < U.heap.size → ¬ A a) : LSt C n d A U U.heap := by
  obtain ⟨c, k, i, f, a, cell, h1, h2, h3, h4, h5, h6, h7, h8, h9⟩ := Cond.laysStatic_spec h
  exact ⟨c, k, i, f, a, cell, h1, h2, h3, h4, h5, h6, h7, h8, h9, hA a (Array.getElem?_eq_some_iff.mp h5).1⟩
theorem LSt.use {C n d : String} {A : Nat → Prop} {U : State} {args : Array Value} (h : LSt C n d A U U.heap) : (Cond.laysStatic C n d).before args U = true := by
  obtain ⟨c, k, i, f, a, cell, h1, h2, h3, h4, h5, h6, h7, h8, h9, -⟩ := h
  simp [Cond.before, Cond.holds, Cond.value, h1, h2, h3, h4, h5, h6, h7, h8, h9]
theorem LSt.kept {C n d : String} {A : Nat → Prop} {U : State} {H H1 : Heap} (h : LSt C n d A U H) (hq : ∀ a : Nat, a < H.size → ¬ A a → H1[a]? = H[a]?) : LSt C n d A U H1 := by
  obtain ⟨c, k, i, f, a, cell, h1, h2, h3, h4, h5, h6⟩ := h
  exact ⟨c, k, i, f, a, cell, h1, h2, h3, h4, by rw [hq a (Array.getElem?_eq_some_iff.mp h5).1 h6.2.2.2.2]; exact h5, h6⟩
theorem LSt.narrow {C n d : String} {A B : Nat → Prop} {U : State} {H : Heap} (h : LSt C n d A U H) (hAB : ∀ q, B q → A q) : LSt C n d B U H := by
  obtain ⟨c, k, i, f, a, cell, h1, h2, h3, h4, h5, h6, h7, h8, h9, h10⟩ := h
  exact ⟨c, k, i, f, a, cell, h1, h2, h3, h4, h5, h6, h7, h8, h9, fun z => h10 (hAB a z)⟩
theorem LSt.moved {C n d : String} {A : Nat → Prop} {u U : State} {H : Heap} (hvm : u.vm.Alike U.vm) (h : LSt C n d A u H) : LSt C n d A U H := by
  obtain ⟨c, k, i, f, a, cell, h1, h2, h3, h4, h5, h6, h7, h8, h9, h10⟩ := h
  obtain ⟨k', hi', he⟩ := State.fieldFound?_setVm hvm h2
  exact ⟨c, k', i, f, a, cell, by rw [hvm.findClass]; exact h1, hi', h3, by rw [he]; exact h4, h5, h6, h7, h8, by rw [he]; exact h9, h10⟩
/-- what a throw needs beside the words: Throwable's two statics hold a reference or null, the texts stand -/
def Tz (A : Nat → Prop) (U : State) (H : Heap) : Prop :=
  va_Zq "java/lang/Throwable" "UNASSIGNED_STACK" "[Ljava/lang/StackTraceElement;" A U H ∧ va_Zq "java/lang/Throwable" "SUPPRESSED_SENTINEL" "Ljava/util/List;" A U H ∧ ∀ w ∈ lw_tbl, (∃ i t, w = Cond.stringRef "TileConsole" i t) → ∃ a, (match w with | .stringRef o i t => vk_R o i t a U | _ => True)
def Ty (A : Nat → Prop) (U : State) (H : Heap) : Prop := LSt "java/lang/Throwable" "UNASSIGNED_STACK" "[Ljava/lang/StackTraceElement;" A U H ∧ LSt "java/lang/Throwable" "SUPPRESSED_SENTINEL" "Ljava/util/List;" A U H
theorem Tz.narrow {A B : Nat → Prop} {U : State} {H : Heap} (h : Tz A U H) (hAB : ∀ q, B q → A q) : Tz B U H := ⟨h.1.narrow hAB, h.2.1.narrow hAB, h.2.2⟩
theorem Tz.kept {A : Nat → Prop} {U : State} {H H1 : Heap} (h : Tz A U H) (hq : ∀ a : Nat, a < H.size → ¬ A a → H1[a]? = H[a]?) : Tz A U H1 := ⟨h.1.kept hq, h.2.1.kept hq, h.2.2⟩
theorem Tz.warm {A : Nat → Prop} {u U : State} {H : Heap} (hW : u.WarmedH U.vm) (h : Tz A u H) : Tz A U H := by
  refine ⟨va_Zq.moved hW.alike h.1, va_Zq.moved hW.alike h.2.1, fun w hw he => ?_⟩
  obtain ⟨a, ha⟩ := h.2.2 w hw he
  obtain ⟨i, t, rfl⟩ := he
  exact ⟨a, vk_R.warm hW ha⟩
theorem Tz.same {A : Nat → Prop} {u U : State} {H : Heap} (hv : U.vm = u.vm) (h : Tz A u H) : Tz A U H := by
  refine ⟨va_Zq.moved (by rw [hv]; exact Vm.Alike.refl _) h.1, va_Zq.moved (by rw [hv]; exact Vm.Alike.refl _) h.2.1, fun w hw he => ?_⟩
  obtain ⟨a, ha⟩ := h.2.2 w hw he
  obtain ⟨i, t, rfl⟩ := he
  exact ⟨a, vk_R.same hv ha⟩
/-- the table's words of four further kinds: they speak of the tables alone, and warming keeps them -/
def nwWord : Cond → Bool
  | .castable _ _ => true
  | .declares _ => true
  | .methodLinkNest _ _ _ _ => true
  | .fieldLinkNest _ _ _ _ _ _ => true
  | _ => false
def Tn (U : State) : Prop := ∀ w ∈ lw_tbl, nwWord w = true → va_Nw w U
theorem nw_tables {w : Cond} (h : nwWord w = true) : w.onTables = true := by
  cases w <;> first | rfl | cases h
theorem Tn.warm {u U : State} (hW : u.WarmedH U.vm) (h : Tn u) : Tn U := by
  intro w hw hn
  have hz := h w hw hn
  cases w <;> first | exact va_Nw.warmC hW hz | exact va_Nw.warmD hW hz | exact va_Nw.warmM hW hz | exact va_Nw.warmF hW hz | cases hn
theorem Tn.same {u U : State} (hv : U.vm = u.vm) (h : Tn u) : Tn U := fun w hw hn => va_Nw.same (nw_tables hn) hv.symm (h w hw hn)
/-- of the five classes each can be assigned to itself alone -/
def Tc (U : State) : Prop := ∀ i j : Nat, i < 5 → j < 5 → ∃ ci cj : ClassId, U.vm.findClass (xn i) = some ci ∧ U.vm.findClass (xn j) = some cj ∧ U.vm.assignable ci cj = (i == j)
theorem Tc.alike {u U : State} (hW : u.vm.Alike U.vm) (h : Tc u) : Tc U := by
  intro i j hi hj
  obtain ⟨ci, cj, h1, h2, h3⟩ := h i j hi hj
  exact ⟨ci, cj, by rw [hW.findClass]; exact h1, by rw [hW.findClass]; exact h2, by rw [hW.assignable]; exact h3⟩
def Tx (A : Nat → Prop) (U : State) (H : Heap) : Prop := Tz A U H ∧ Ty A U H ∧ Tn U ∧ Tc U
theorem Tx.narrow {A B : Nat → Prop} {U : State} {H : Heap} (h : Tx A U H) (hAB : ∀ q, B q → A q) : Tx B U H := ⟨h.1.narrow hAB, ⟨h.2.1.1.narrow hAB, h.2.1.2.narrow hAB⟩, h.2.2⟩
theorem Tx.kept {A : Nat → Prop} {U : State} {H H1 : Heap} (h : Tx A U H) (hq : ∀ a : Nat, a < H.size → ¬ A a → H1[a]? = H[a]?) : Tx A U H1 := ⟨h.1.kept hq, ⟨h.2.1.1.kept hq, h.2.1.2.kept hq⟩, h.2.2⟩
theorem Tx.warm {A : Nat → Prop} {u U : State} {H : Heap} (hW : u.WarmedH U.vm) (h : Tx A u H) : Tx A U H := ⟨h.1.warm hW, ⟨h.2.1.1.moved hW.alike, h.2.1.2.moved hW.alike⟩, h.2.2.1.warm hW, h.2.2.2.alike hW.alike⟩
theorem Tx.same {A : Nat → Prop} {u U : State} {H : Heap} (hv : U.vm = u.vm) (h : Tx A u H) : Tx A U H := ⟨Tz.same hv h.1, ⟨LSt.moved (by rw [hv]; exact Vm.Alike.refl _) h.2.1.1, LSt.moved (by rw [hv]; exact Vm.Alike.refl _) h.2.1.2⟩, Tn.same hv h.2.2.1, Tc.alike (by rw [hv]; exact Vm.Alike.refl _) h.2.2.2⟩
def PreX (D : va_G) (ce : Mem → va_W) (cA : ClassId) (tb : Nat → Nat) (av : List Value) (M : Mem) (sz : Nat) : Array Value → State → Prop :=
  fun a U => PreC D ce cA tb av M sz a U ∧ Tx (va_A (ce M) sz) U U.heap
def PostX (D : va_G) (ce : Mem → va_W) (A : Nat → Prop) (T : Nat → Mem → Prop) : Array Value → State → Outcome → State → Prop := fun _ st oc t =>
  ∃ (x : Addr) (k : Nat) (M' : Mem), oc = .threw x ∧ T k M' ∧ va_P D vcl (ce M') t.heap ∧ va_F A st t ∧ st.heap.size ≤ x ∧ ∃ cell : Cell, t.heap[x]? = some cell ∧ cell.vm = .none ∧ t.vm.findClass (xn k) = some cell.cls
def EndX (Qc : Array Value → State → Outcome → State → Prop) (free : Addr → Prop) : Array Value → State → Outcome → State → Prop := fun a st o t =>
  Qc a st o t ∧ ∃ L : List Loc, st.WarmedH t.vm ∧ st.sameButNew ({ t with vm := st.vm } : State) L 1 6 ∧ ∀ q ∈ L, free q.base
def CtX (l : Launch) (y : MethodName) (ws : List Cond) (rm : Room) (D : va_G) (ce : Mem → va_W) (cA : ClassId) (tb : Nat → Nat) (av : List Value) (M : Mem) (T : Nat → Mem → Prop) : Prop :=
  ∀ sz, MetFree l y (headSpec ws rm) (PreX D ce cA tb av M sz) (fun _ _ _ _ _ => True) (EndX (PostX D ce (va_A (ce M) sz) T) (va_A (ce M) sz))
def MQX (below : List Frame) (Qc : Array Value → State → Outcome → State → Prop) (a : Array Value) (s : State) (free : Addr → Prop) : State → Prop := fun t =>
  ∃ o, t.status = .running ∧ Ended t below o ∧ EndX Qc free a s o t
theorem CtX.of {l : Launch} {y : MethodName} {ws : List Cond} {rm : Room} {D : va_G} {ce : Mem → va_W} {cA : ClassId} {tb : Nat → Nat} {av : List Value} {M : Mem} {T : Nat → Mem → Prop} {cc : ByteArray} {maxL : Nat} {ret : Option FieldType} {own : String}
    (hfix : AdFix ce) (hy : plainName y.cls = true) (ho : y.cls = own) (hw : ws = Cond.code y cc maxL ret :: WA) (hlen : (lg_sl av).length ≤ maxL)
    (body : ∀ (p : Program) (e : Env) (s : State) (m : MethodId) (args : Array Value) (below : List Frame) (meth : Method) (c : Code) (A : Nat → Prop) (QQ : State → Prop) (ls : Array Slot) (H : Heap) (locs : List Loc), QQ = MQX below (PostX D ce A T) args s A → Cx p m c cc maxL s args own D ce cA tb A → Tx A s s.heap → c.exceptionTable.isEmpty = true → meth.locks = false → Wd D ce A s H locs M → lv_has ls maxL (lv_args 0 av) → W p l e rm s m args below meth c H locs 0 0 QQ (F0 m 0 ls [])) : CtX l y ws rm D ce cA tb av M T := by
  intro sz
  refine MetFree.of_bodyS (code := cc) (maxLocals := maxL) (ret := ret) hy ?_ ?_
  · intro args s m h hn
    obtain ⟨meth, c, h1, h2, h3, h4, h5, h6, -, -⟩ := Cond.code_spec hn (atoms_spec (ws := ws) h _ (by rw [hw]; exact List.mem_cons_self))
    exact ⟨meth, c, h1, h2, h3, h4, h5, h6⟩
  · intro p e s m args below meth c s₁ B hml hP _
    have hh0 : s₁.heap = s.heap := by rw [B.state]; rfl
    obtain ⟨⟨rfl, hsz, hP, hK, hD0, hZ⟩, hT⟩ := hP
    subst hsz
    have hts : ∀ w ∈ WA, w.before av.toArray s = true := fun w h => atoms_spec (ws := ws) B.pre w (by rw [hw]; exact List.mem_cons_of_mem _ h)
    have hl := lv_entry av (n := maxL) hlen
    have hD : ∀ M', va_D (va_A (ce M) s.heap.size) (ce M') := fun M' => va_D_fst hD0.self (hfix M M')
    have hown : s.vm.findClass own = some m.cls := by rw [← ho]; exact findClass_of_methodNamed B.named
    have hnh := B.noHandlers (atoms_spec (ws := ws) B.pre _ (by rw [hw]; exact List.mem_cons_self))
    have K := body p e s m _ below meth c (va_A (ce M) s.heap.size) _ _ s.heap [] rfl ⟨⟨B.exec, B.bytes, hml, hown, hts⟩, hK, hD, fun q h => Or.inr h, hZ⟩ hT hnh B.notSynchronized ⟨hP, va_S.rf⟩ hl
    obtain ⟨t, a1, o, b1, b2, b3⟩ := K s₁ hh0 (Stand.of_body B)
    refine ⟨t, o, ?_, b1, b2, b3⟩
    rw [lg_entry_eq]
    exact a1
section THR
variable {p : Program} {l : Launch} {e : Env} {R : Room} {s : State} {m : MethodId} {args : Array Value} {below : List Frame} {meth : Method} {c : Code} {T : State} {locs : List Loc}
theorem hears_alike {a b : State} (h : a.vm.Alike b.vm) {m : MethodId} {below : List Frame} (hh : a.hears m below = true) : b.hears m below = true := by
  have hm : ∀ k, b.vm.method? k = a.vm.method? k := fun k => h.method? k
  cases below with
  | nil => simpa [State.hears, hm] using hh
  | cons f r => cases f <;> simpa [State.hears, State.code?_eq, hm] using hh
/-- the method as if it had begun here -/
theorem Stand_rebase (X : Stand p l e R s m args below meth c T locs 0 0) : Stand p l e R (T.setFrames (.invoking m args :: below)) m args below meth c T [] 0 0 := by
  obtain ⟨g₀, hfr⟩ := X.frames_eq
  have hcur : T.cur < T.threads.size := State.cur_lt_of_frames hfr
  have hF : (T.setFrames (.invoking m args :: below)).frames = .invoking m args :: below := State.frames_setFrames _ hcur
  have hm' : (T.setFrames (.invoking m args :: below)).vm.method? m = some meth := X.method'
  have hsz : T.heap.size ≤ s.heap.size := X.heapSize
  have hus : T.slotsUsed ≤ s.slotsUsed := X.used
  refine ⟨X.admits, X.cas, X.clock, hF, ?_, hears_alike X.warmed.alike X.hears, hm', X.code, X.here, X.tail, State.WarmedH.refl _, ?_, ?_, ?_⟩
  · have h := X.room
    simp only [State.hasRoom, Bool.and_eq_true, decide_eq_true_eq] at h ⊢
    rw [State.localsInUse_invoking hF hm' X.code, hF, State.stackLimits_setFrames, State.stackBytes_setFrames, X.limits, X.bytes]
    rw [State.localsInUse_invoking X.frames X.method X.code, X.frames] at h
    obtain ⟨⟨⟨⟨h1, h2⟩, h3⟩, h4⟩, h5⟩ := h
    have hb : (T.setFrames (.invoking m args :: below)).slotsTrue = true := X.book
    refine ⟨⟨⟨⟨h1, h2⟩, ?_⟩, ?_⟩, hb⟩
    · show T.heap.size + R.cells ≤ _
      omega
    · show T.slotsUsed + R.slots ≤ _
      omega
  · rw [State.stackLimits_setFrames]
  · rw [State.stackBytes_setFrames]
  · obtain ⟨t, ht, -⟩ := State.frames_cons hF
    obtain ⟨t2, ht2, -⟩ := State.frames_cons hfr
    have h := (State.sameButNew.refl (T.setFrames (.invoking m args :: below)) ht).setFrames T.frames (State.cur_lt_of_frames hF)
    rw [State.setFrames_setFrames, State.setFrames_self ht2] at h
    exact h
end THR
