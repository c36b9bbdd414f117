/-! My base: an abstract memory (cell, place) -> int; a world of cells that depends on it; contracts and calls over it. -/
abbrev Mem : Type := Nat → Nat → Int32
def mst (M : Mem) (j k : Nat) (v : Int32) : Mem := fun i => if i = j then upd (M j) k v else M i
def isB (v : Int32) : Prop := v = 0 ∨ v = 1
theorem isB_nar {v : Int32} (h : isB v) : narrow .boolean (.int v) = .int v := by
  rcases h with h | h <;> subst h <;> decide
theorem isB_fit {v : Int32} (h : isB v) : fits .boolean (.int v) = true := by
  rcases h with h | h <;> subst h <;> decide
theorem vin_lit {i : Int32} {n : Nat} (h : (decide (i < 0) || decide (n ≤ i.toNatClampNeg)) = false) : vp_in i n := by
  intro q
  rw [Bool.or_eq_false_iff, decide_eq_false_iff_not, decide_eq_false_iff_not] at h
  exact q.elim h.1 h.2
def AdFix (ce : Mem → va_W) : Prop := ∀ M M', (ce M).map Prod.fst = (ce M').map Prod.fst
theorem va_D_fst {A : Nat → Prop} {ws ws' : va_W} (h : va_D A ws) (e : ws.map Prod.fst = ws'.map Prod.fst) : va_D A ws' := by
  have key : ∀ (k : Nat) (q : Nat × va_E), ws'[k]? = some q → ∃ q0, ws[k]? = some q0 ∧ q0.1 = q.1 := by
    intro k q hk
    have h1 : (ws'.map Prod.fst)[k]? = some q.1 := by rw [List.getElem?_map, hk]; rfl
    rw [← e, List.getElem?_map] at h1
    cases hi : ws[k]? with
    | none => rw [hi] at h1; cases h1
    | some q0 => rw [hi] at h1; exact ⟨q0, rfl, Option.some.inj h1⟩
  refine ⟨fun i j x y hi hj hxy => ?_, fun k q hk => ?_⟩
  · obtain ⟨x0, h1, h2⟩ := key i x hi
    obtain ⟨y0, h3, h4⟩ := key j y hj
    exact h.1 i j x0 y0 h1 h3 (h2.trans (hxy.trans h4.symm))
  · obtain ⟨q0, h1, h2⟩ := key k q hk
    rw [← h2]
    exact h.2 k q0 h1
def Wd (D : va_G) (ce : Mem → va_W) (A : Nat → Prop) (s : State) (H : Heap) (locs : List Loc) (M : Mem) : Prop := va_P D vcl (ce M) H ∧ va_S A s.heap H locs
/-- what stays through a method -/
def Cx (p : Program) (m : MethodId) (c : Code) (cc : ByteArray) (nL : Nat) (s : State) (args : Array Value) (own : String) (D : va_G) (ce : Mem → va_W) (cA : ClassId) (tb : Nat → Nat) (A : Nat → Prop) : Prop :=
  CallFix p m c cc nL s args WA own ∧ va_K D vcl [(cA, .int)] s ∧ (∀ M, va_D A (ce M)) ∧ (∀ q, s.heap.size ≤ q → A q) ∧ Sx tb A s s.heap
def PreC (D : va_G) (ce : Mem → va_W) (cA : ClassId) (tb : Nat → Nat) (av : List Value) (M : Mem) (sz : Nat) : Array Value → State → Prop :=
  va_Pc av (fun U => U.heap.size = sz ∧ va_P D vcl (ce M) U.heap ∧ va_K D vcl [(cA, .int)] U ∧ va_D (fun _ => True) (ce M) ∧ Sx tb (va_A (ce M) sz) U U.heap)
def PostC (D : va_G) (ce : Mem → va_W) (A : Nat → Prop) (Q : Option Value → Mem → Prop) : Array Value → State → Outcome → State → Prop := fun _ st oc t =>
  ∃ (r : Option Value) (M' : Mem), oc = .returned r ∧ Q r M' ∧ va_P D vcl (ce M') t.heap ∧ va_F A st t
def Ct (l : Launch) (y : MethodName) (ws : List Cond) (rm : Room) (D : va_G) (ce : Mem → va_W) (cA : ClassId) (tb : Nat → Nat) (av : List Value) (M : Mem) (Q : Option Value → Mem → Prop) : Prop :=
  ∀ sz, Met l y ws rm (PreC D ce cA tb av M sz) (PostC D ce (va_A (ce M) sz) Q) 0 0 (va_A (ce M) sz)
def QI (Q : Int32 → Mem → Prop) : Option Value → Mem → Prop := fun r M' => ∃ x, r = some (.int x) ∧ Q x M'
def QV (Q : Mem → Prop) : Option Value → Mem → Prop := fun r M' => r = none ∧ Q M'
def QD (Q : UInt64 → Mem → Prop) : Option Value → Mem → Prop := fun r M' => ∃ x, r = some (.double x) ∧ Q x M'
def QIp (M : Mem) (Q : Int32 → Prop) : Option Value → Mem → Prop := fun r M' => M' = M ∧ ∃ x, r = some (.int x) ∧ Q x
def QVp (M : Mem) (Q : Prop) : Option Value → Mem → Prop := fun r M' => M' = M ∧ r = none ∧ Q
def QDp (M : Mem) (Q : UInt64 → Prop) : Option Value → Mem → Prop := fun r M' => M' = M ∧ ∃ x, r = some (.double x) ∧ Q x
theorem Ct.of {l : Launch} {y : MethodName} {ws : List Cond} {rm : Room} {D : va_G} {ce : Mem → va_W} {cA : ClassId} {tb : Nat → Nat} {av : List Value} {M : Mem} {Q : Option Value → Mem → Prop} {cc : ByteArray} {maxL : Nat} {ret : Option FieldType} {own : String}
    (hfix : AdFix ce) (hy : plainName y.cls = true) (ho : y.cls = own) (hw : ws = Cond.code y cc maxL ret :: WA) (hlen : (lg_sl av).length ≤ maxL)
    (body : ∀ (p : Program) (e : Env) (s : State) (m : MethodId) (args : Array Value) (below : List Frame) (meth : Method) (c : Code) (A : Nat → Prop) (QQ : State → Prop) (ls : Array Slot) (H : Heap) (locs : List Loc), QQ = MQ below (PostC D ce A Q) args s 0 0 A → Cx p m c cc maxL s args own D ce cA tb A → meth.sig.returnType = ret → meth.locks = false → Wd D ce A s H locs M → lv_has ls maxL (lv_args 0 av) → W p l e rm s m args below meth c H locs 0 0 QQ (F0 m 0 ls [])) : Ct l y ws rm D ce cA tb av M Q := by
  intro sz
  refine Met.ofW (cc := cc) (maxL := maxL) (ret := ret) hy hw ?_
  intro p e s m args below meth c s₁ B hml hv
  obtain ⟨rfl, hsz, hP, hK, hD0, hZ⟩ := hv
  subst hsz
  have hts : ∀ w ∈ WA, w.before av.toArray s = true := fun w h => atoms_spec (ws := ws) B.pre w (by rw [hw]; exact List.mem_cons_of_mem _ h)
  have hl := lv_entry av (n := maxL) hlen
  rw [lg_entry_eq]
  have hD : ∀ M', va_D (va_A (ce M) s.heap.size) (ce M') := fun M' => va_D_fst hD0.self (hfix M M')
  have hown : s.vm.findClass own = some m.cls := by rw [← ho]; exact findClass_of_methodNamed B.named
  exact body p e s m _ below meth c (va_A (ce M) s.heap.size) _ _ _ _ rfl ⟨⟨B.exec, B.bytes, hml, hown, hts⟩, hK, hD, fun q h => Or.inr h, hZ⟩ B.returns B.notSynchronized ⟨hP, va_S.rf⟩ hl
theorem Ct.ofF {l : Launch} {y : MethodName} {ws : List Cond} {rm : Room} {D : va_G} {ce : Mem → va_W} {cA : ClassId} {tb : Nat → Nat} {av : List Value} {M : Mem} {Q : Option Value → Mem → Prop} {cc : ByteArray} {maxL : Nat} {ret : Option FieldType} {own : String}
    (hfix : AdFix ce) (hy : plainFor y = true) (ho : y.cls = own) (hw : ws = Cond.code y cc maxL ret :: WA) (hlen : (lg_sl av).length ≤ maxL)
    (body : ∀ (p : Program) (e : Env) (s : State) (m : MethodId) (args : Array Value) (below : List Frame) (meth : Method) (c : Code) (A : Nat → Prop) (QQ : State → Prop) (ls : Array Slot) (H : Heap) (locs : List Loc), QQ = MQ below (PostC D ce A Q) args s 0 0 A → Cx p m c cc maxL s args own D ce cA tb A → meth.sig.returnType = ret → meth.locks = false → Wd D ce A s H locs M → lv_has ls maxL (lv_args 0 av) → W p l e rm s m args below meth c H locs 0 0 QQ (F0 m 0 ls [])) : Ct l y ws rm D ce cA tb av M Q := by
  intro sz
  refine va_MetF (cc := cc) (maxL := maxL) (ret := ret) hy hw ?_
  intro p e s m args below meth c s₁ B hml hv
  obtain ⟨rfl, hsz, hP, hK, hD0, hZ⟩ := hv
  subst hsz
  have hts : ∀ w ∈ WA, w.before av.toArray s = true := fun w h => atoms_spec (ws := ws) B.pre w (by rw [hw]; exact List.mem_cons_of_mem _ h)
  have hl := lv_entry av (n := maxL) hlen
  rw [lg_entry_eq]
  have hD : ∀ M', va_D (va_A (ce M) s.heap.size) (ce M') := fun M' => va_D_fst hD0.self (hfix M M')
  have hown : s.vm.findClass own = some m.cls := by rw [← ho]; exact findClass_of_methodNamed B.named
  exact body p e s m _ below meth c (va_A (ce M) s.heap.size) _ _ _ _ rfl ⟨⟨B.exec, B.bytes, hml, hown, hts⟩, hK, hD, fun q h => Or.inr h, hZ⟩ B.returns B.notSynchronized ⟨hP, va_S.rf⟩ hl
theorem PreC_blind {D : va_G} {ce : Mem → va_W} {cA : ClassId} {tb : Nat → Nat} {av : List Value} {M : Mem} {sz : Nat} : FrameBlind (PreC D ce cA tb av M sz) := by
  intro a U g mk q
  obtain ⟨q0, q1, qP, qK, qD, qZ⟩ := q
  exact ⟨q0, q1, qP, va_K.moved (u := U) (U := U.calling g mk a) (Vm.Alike.refl U.vm) qK, qD, Sx.moved (u := U) (U := U.calling g mk a) (Vm.Alike.refl U.vm) qZ⟩
section BASE
variable {p : Program} {l : Launch} {e : Env} {R : Room} {s : State} {m : MethodId} {args : Array Value} {below : List Frame} {meth : Method} {c : Code} {H : Heap} {locs : List Loc} {QQ : State → Prop}
variable {cc : ByteArray} {pc nL : Nat} {ls : Array Slot} {rest st0 As : List Value} {D : va_G} {ce : Mem → va_W} {cA : ClassId} {tb : Nat → Nat} {A : Nat → Prop} {own : String} {M : Mem}
theorem Cx.sub (hC : Cx p m c cc nL s args own D ce cA tb A) (hw : Wd D ce A s H locs M) : ∀ q, va_A (ce M) H.size q → A q := by
  intro q h
  rcases h with ⟨k, e, h⟩ | h
  · exact (hC.2.2.1 M).2 k (q, e) h
  · exact hC.2.2.2.1 q (Nat.le_trans hw.2.1 h)
theorem Cx.pre (hC : Cx p m c cc nL s args own D ce cA tb A) (hw : Wd D ce A s H locs M) (av : List Value) : ∀ U : State, U.heap = H → s.WarmedH U.vm → PreC D ce cA tb av M H.size av.toArray U := by
  intro U hU hW
  have h1 : Sx tb A s H := hC.2.2.2.2.kept hw.2.2.1
  have h2 : Sx tb A U H := Sx.moved hW.alike h1
  exact ⟨rfl, by rw [hU], by rw [hU]; exact hw.1, va_K.moved hW.alike hC.2.1, (hC.2.2.1 M).weaken (fun _ _ _ _ => trivial), by rw [hU]; exact h2.narrow (hC.sub hw)⟩
theorem cl_core {mQ : Option Value → Mem → Prop} {a : Array Value} (hr : va_Run p l e R s m args below meth c H locs 0 0 0 0 (F0 m pc ls st0) rest (PostC D ce (va_A (ce M) H.size) mQ a) (va_A (ce M) H.size)) (hC : Cx p m c cc nL s args own D ce cA tb A) (hw : Wd D ce A s H locs M)
    (kk : ∀ (r : Option Value) (M' : Mem) (H' : Heap) (locs' : List Loc), mQ r M' → Wd D ce A s H' locs' M' → W p l e R s m args below meth c H' locs' 0 0 QQ (F0 m (pc + 3) ls (r.toList ++ rest))) : W p l e R s m args below meth c H locs 0 0 QQ (F0 m pc ls st0) := by
  have hA := hC.sub hw
  obtain ⟨hP, hS⟩ := hw
  intro T hT X
  obtain ⟨v, st₀, t, T', L, h0, X', hL, e1, e2, ⟨r, M', hv, hq, hP', hz, hk⟩, st⟩ := hr T hT X
  have hvr : v = r := by cases hv; rfl
  subst hvr
  rw [h0] at hz hk
  obtain ⟨t2, a1, b1⟩ := kk v M' T'.heap (locs ++ L) hq ⟨by rw [e1]; exact hP', ⟨Nat.le_trans hS.1 (by rw [e1]; exact hz), fun q h1 h2 => by rw [e1, hk q (Nat.lt_of_lt_of_le h1 hS.1) (fun z => h2 (hA q z))]; exact hS.2.1 q h1 h2, fun q hq => by
      rcases List.mem_append.mp hq with h | h
      · exact hS.2.2 q h
      · exact hA _ (hL q h)⟩⟩ T' rfl X'
  exact ⟨t2, st t2 a1, b1⟩
end BASE
/-- the words of a method that is called: instance, static -/
def Mw (y : MethodName) (C : String) (bytes : ByteArray) (maxL : Nat) (ret : Option FieldType) (n : Nat) : Prop :=
  Cond.instanceMethod y ∈ WA ∧ Cond.selects C y y ∈ WA ∧ Cond.initialized C ∈ WA ∧ Cond.code y bytes maxL ret ∈ WA ∧ (y.cls = C ∧ y.cls ≠ "java/lang/invoke/MethodHandle" ∧ y.cls ≠ "java/lang/invoke/VarHandle" ∧ (parseMethodDescriptor y.desc).map (fun d => d.parameters.length) = some n)
def Ms (y : MethodName) (bytes : ByteArray) (maxL : Nat) (ret : Option FieldType) (n : Nat) : Prop :=
  Cond.static y ∈ WA ∧ Cond.initialized y.cls ∈ WA ∧ Cond.code y bytes maxL ret ∈ WA ∧ (y.cls ≠ "java/lang/invoke/MethodHandle" ∧ y.cls ≠ "java/lang/invoke/VarHandle" ∧ (parseMethodDescriptor y.desc).map (fun d => d.parameters.length) = some n)
theorem Wa_good {w : Cond} (h : w ∈ WA) : w ∈ WA ∧ ((w.onTables && w.keeps) = true ∨ ∃ ty, w = .arrayClass ty) := ⟨h, good_of_word (List.mem_filter.mp h).2⟩
theorem gd_V {own C : String} {idx maxL n : Nat} {y : MethodName} {bytes : ByteArray} {ret : Option FieldType} (hl : Cond.methodLink own idx y ∈ WA) (hm : Mw y C bytes maxL ret n) : GoodIn WA (wsV own idx C y (Cond.code y bytes maxL ret :: WA)) := by
  intro w hw
  unfold wsV at hw
  rcases List.mem_append.mp hw with h | h
  · simp only [List.mem_cons, List.not_mem_nil, or_false] at h
    rcases h with rfl | rfl | rfl | rfl
    · exact Wa_good hl
    · exact Wa_good hm.1
    · exact Wa_good hm.2.1
    · exact Wa_good hm.2.2.1
  · rcases List.mem_cons.mp h with rfl | h
    · exact Wa_good hm.2.2.2.1
    · exact Wa_good h
theorem gd_S {own : String} {idx maxL n : Nat} {y : MethodName} {bytes : ByteArray} {ret : Option FieldType} (hl : Cond.methodLink own idx y ∈ WA) (hm : Ms y bytes maxL ret n) : GoodIn WA (va_wsS own idx y (Cond.code y bytes maxL ret :: WA)) := by
  intro w hw
  unfold va_wsS at hw
  rcases List.mem_append.mp hw with h | h
  · simp only [List.mem_cons, List.not_mem_nil, or_false] at h
    rcases h with rfl | rfl | rfl
    · exact Wa_good hl
    · exact Wa_good hm.1
    · exact Wa_good hm.2.1
  · rcases List.mem_cons.mp h with rfl | h
    · exact Wa_good hm.2.2.1
    · exact Wa_good h
section BASE2
variable {p : Program} {l : Launch} {e : Env} {R : Room} {s : State} {m : MethodId} {args : Array Value} {below : List Frame} {meth : Method} {c : Code} {H : Heap} {locs : List Loc} {QQ : State → Prop}
variable {cc : ByteArray} {pc nL : Nat} {ls : Array Slot} {rest st0 As : List Value} {D : va_G} {ce : Mem → va_W} {cA : ClassId} {tb : Nat → Nat} {A : Nat → Prop} {own : String} {M : Mem}
variable {y : MethodName} {ws : List Cond} {rm : Room} {b ci idx n maxL N : Nat} {fs : List Value} {Cn : String} {Tn : u_T} {bytes : ByteArray} {ret : Option FieldType} {mQ : Option Value → Mem → Prop}
theorem cl_V {j : Nat} (hC : Cx p m c cc nL s args own D ce cA tb A) (hw : Wd D ce A s H locs M) (hM : Ct l y ws rm D ce cA tb (.ref b :: As) M mQ) (hl : Cond.methodLink own idx y ∈ WA) (hm : Mw y Cn bytes maxL ret n) (hws : ws = Cond.code y bytes maxL ret :: WA)
    (hR : rm.cells = 0 ∧ rm.slots = 0 ∧ rm.frames + 1 ≤ R.frames ∧ 8 + (maxL + 11) + rm.locals ≤ R.locals) (hj : (ce M)[j]? = some (b, .inr (ci, fs))) (hcl : vcl[ci]? = some (Cn, Tn, N)) (hn : As.length = n) (hsz : ls.size = nL) (hst : st0 = As.reverse ++ .ref b :: rest) (hrm : (rest.map fun v => v.category).sum ≤ 8) (hdg : decode cc pc = .ok (.invokevirtual idx, 3))
    (kk : ∀ (r : Option Value) (M' : Mem) (H' : Heap) (locs' : List Loc), mQ r M' → Wd D ce A s H' locs' M' → W p l e R s m args below meth c H' locs' 0 0 QQ (F0 m (pc + 3) ls (r.toList ++ rest))) : W p l e R s m args below meth c H locs 0 0 QQ (F0 m pc ls st0) := by
  subst hws
  have cw : CallW R s args own Cn idx y bytes maxL ret (Cond.code y bytes maxL ret :: WA) rm 0 0 n := cwV n hC.1.2.2.2.2 (gd_V hl hm) rfl hR.1 hR.2.1 hm.2.2.2.2 hR.2.2
  refine cl_core (va_runV (As := As) (rest := rest) (b := b) hC.1 (hM H.size) cw ⟨PreC_blind, va_recv hC.2.1 hw.1 hcl hj, hC.pre hw _⟩ rfl hn hsz hst (lv_room hrm) hdg ⟨Nat.zero_le _, Nat.zero_le _⟩) hC hw kk
theorem cl_S (hC : Cx p m c cc nL s args own D ce cA tb A) (hw : Wd D ce A s H locs M) (hM : Ct l y ws rm D ce cA tb As M mQ) (hl : Cond.methodLink own idx y ∈ WA) (hm : Ms y bytes maxL ret n) (hws : ws = Cond.code y bytes maxL ret :: WA)
    (hR : rm.cells = 0 ∧ rm.slots = 0 ∧ rm.frames + 1 ≤ R.frames ∧ 8 + (maxL + 11) + rm.locals ≤ R.locals) (hn : As.length = n) (hsz : ls.size = nL) (hst : st0 = As.reverse ++ rest) (hrm : (rest.map fun v => v.category).sum ≤ 8) (hdg : decode cc pc = .ok (.invokestatic idx, 3))
    (kk : ∀ (r : Option Value) (M' : Mem) (H' : Heap) (locs' : List Loc), mQ r M' → Wd D ce A s H' locs' M' → W p l e R s m args below meth c H' locs' 0 0 QQ (F0 m (pc + 3) ls (r.toList ++ rest))) : W p l e R s m args below meth c H locs 0 0 QQ (F0 m pc ls st0) := by
  subst hws
  have cw := va_cwS (R := R) (s := s) (args := args) (mc := 0) (ms := 0) n hC.1.2.2.2.2 (gd_S hl hm) rfl hR.1 hR.2.1 hm.2.2.2 hR.2.2
  refine cl_core (va_runS (As := As) (rest := rest) hC.1 (hM H.size) cw ⟨PreC_blind, hC.pre hw _⟩ rfl hn hsz hst (lv_room hrm) hdg ⟨Nat.zero_le _, Nat.zero_le _⟩) hC hw kk
theorem cl_Vi {j : Nat} {Qx : Int32 → Mem → Prop} (hC : Cx p m c cc nL s args own D ce cA tb A) (hw : Wd D ce A s H locs M) (hM : Ct l y ws rm D ce cA tb (.ref b :: As) M (QI Qx)) (hl : Cond.methodLink own idx y ∈ WA) (hm : Mw y Cn bytes maxL ret n) (hws : ws = Cond.code y bytes maxL ret :: WA)
    (hR : rm.cells = 0 ∧ rm.slots = 0 ∧ rm.frames + 1 ≤ R.frames ∧ 8 + (maxL + 11) + rm.locals ≤ R.locals) (hj : (ce M)[j]? = some (b, .inr (ci, fs))) (hcl : vcl[ci]? = some (Cn, Tn, N)) (hn : As.length = n) (hsz : ls.size = nL) (hst : st0 = As.reverse ++ .ref b :: rest) (hrm : (rest.map fun v => v.category).sum ≤ 8) (hdg : decode cc pc = .ok (.invokevirtual idx, 3))
    (kk : ∀ (H' : Heap) (locs' : List Loc) (x : Int32) (M' : Mem), Qx x M' → Wd D ce A s H' locs' M' → W p l e R s m args below meth c H' locs' 0 0 QQ (F0 m (pc + 3) ls (.int x :: rest))) : W p l e R s m args below meth c H locs 0 0 QQ (F0 m pc ls st0) := by
  refine cl_V (j := j) (As := As) hC hw hM hl hm hws hR hj hcl hn hsz hst hrm hdg (fun r M' H' locs' hq hw' => ?_)
  obtain ⟨x, rfl, hq⟩ := hq
  exact kk H' locs' x M' hq hw'
theorem cl_Si {Qx : Int32 → Mem → Prop} (hC : Cx p m c cc nL s args own D ce cA tb A) (hw : Wd D ce A s H locs M) (hM : Ct l y ws rm D ce cA tb As M (QI Qx)) (hl : Cond.methodLink own idx y ∈ WA) (hm : Ms y bytes maxL ret n) (hws : ws = Cond.code y bytes maxL ret :: WA)
    (hR : rm.cells = 0 ∧ rm.slots = 0 ∧ rm.frames + 1 ≤ R.frames ∧ 8 + (maxL + 11) + rm.locals ≤ R.locals) (hn : As.length = n) (hsz : ls.size = nL) (hst : st0 = As.reverse ++ rest) (hrm : (rest.map fun v => v.category).sum ≤ 8) (hdg : decode cc pc = .ok (.invokestatic idx, 3))
    (kk : ∀ (H' : Heap) (locs' : List Loc) (x : Int32) (M' : Mem), Qx x M' → Wd D ce A s H' locs' M' → W p l e R s m args below meth c H' locs' 0 0 QQ (F0 m (pc + 3) ls (.int x :: rest))) : W p l e R s m args below meth c H locs 0 0 QQ (F0 m pc ls st0) := by
  refine cl_S (As := As) hC hw hM hl hm hws hR hn hsz hst hrm hdg (fun r M' H' locs' hq hw' => ?_)
  obtain ⟨x, rfl, hq⟩ := hq
  exact kk H' locs' x M' hq hw'
theorem cl_Vv {j : Nat} {Qx : Mem → Prop} (hC : Cx p m c cc nL s args own D ce cA tb A) (hw : Wd D ce A s H locs M) (hM : Ct l y ws rm D ce cA tb (.ref b :: As) M (QV Qx)) (hl : Cond.methodLink own idx y ∈ WA) (hm : Mw y Cn bytes maxL ret n) (hws : ws = Cond.code y bytes maxL ret :: WA)
    (hR : rm.cells = 0 ∧ rm.slots = 0 ∧ rm.frames + 1 ≤ R.frames ∧ 8 + (maxL + 11) + rm.locals ≤ R.locals) (hj : (ce M)[j]? = some (b, .inr (ci, fs))) (hcl : vcl[ci]? = some (Cn, Tn, N)) (hn : As.length = n) (hsz : ls.size = nL) (hst : st0 = As.reverse ++ .ref b :: rest) (hrm : (rest.map fun v => v.category).sum ≤ 8) (hdg : decode cc pc = .ok (.invokevirtual idx, 3))
    (kk : ∀ (H' : Heap) (locs' : List Loc) (M' : Mem), Qx M' → Wd D ce A s H' locs' M' → W p l e R s m args below meth c H' locs' 0 0 QQ (F0 m (pc + 3) ls rest)) : W p l e R s m args below meth c H locs 0 0 QQ (F0 m pc ls st0) := by
  refine cl_V (j := j) (As := As) hC hw hM hl hm hws hR hj hcl hn hsz hst hrm hdg (fun r M' H' locs' hq hw' => ?_)
  obtain ⟨rfl, hq⟩ := hq
  exact kk H' locs' M' hq hw'
theorem cl_Sv {Qx : Mem → Prop} (hC : Cx p m c cc nL s args own D ce cA tb A) (hw : Wd D ce A s H locs M) (hM : Ct l y ws rm D ce cA tb As M (QV Qx)) (hl : Cond.methodLink own idx y ∈ WA) (hm : Ms y bytes maxL ret n) (hws : ws = Cond.code y bytes maxL ret :: WA)
    (hR : rm.cells = 0 ∧ rm.slots = 0 ∧ rm.frames + 1 ≤ R.frames ∧ 8 + (maxL + 11) + rm.locals ≤ R.locals) (hn : As.length = n) (hsz : ls.size = nL) (hst : st0 = As.reverse ++ rest) (hrm : (rest.map fun v => v.category).sum ≤ 8) (hdg : decode cc pc = .ok (.invokestatic idx, 3))
    (kk : ∀ (H' : Heap) (locs' : List Loc) (M' : Mem), Qx M' → Wd D ce A s H' locs' M' → W p l e R s m args below meth c H' locs' 0 0 QQ (F0 m (pc + 3) ls rest)) : W p l e R s m args below meth c H locs 0 0 QQ (F0 m pc ls st0) := by
  refine cl_S (As := As) hC hw hM hl hm hws hR hn hsz hst hrm hdg (fun r M' H' locs' hq hw' => ?_)
  obtain ⟨rfl, hq⟩ := hq
  exact kk H' locs' M' hq hw'
theorem cl_Vip {j : Nat} {Qx : Int32 → Prop} (hC : Cx p m c cc nL s args own D ce cA tb A) (hw : Wd D ce A s H locs M) (hM : Ct l y ws rm D ce cA tb (.ref b :: As) M (QIp M Qx)) (hl : Cond.methodLink own idx y ∈ WA) (hm : Mw y Cn bytes maxL ret n) (hws : ws = Cond.code y bytes maxL ret :: WA)
    (hR : rm.cells = 0 ∧ rm.slots = 0 ∧ rm.frames + 1 ≤ R.frames ∧ 8 + (maxL + 11) + rm.locals ≤ R.locals) (hj : (ce M)[j]? = some (b, .inr (ci, fs))) (hcl : vcl[ci]? = some (Cn, Tn, N)) (hn : As.length = n) (hsz : ls.size = nL) (hst : st0 = As.reverse ++ .ref b :: rest) (hrm : (rest.map fun v => v.category).sum ≤ 8) (hdg : decode cc pc = .ok (.invokevirtual idx, 3))
    (kk : ∀ (H' : Heap) (locs' : List Loc) (x : Int32), Qx x → Wd D ce A s H' locs' M → W p l e R s m args below meth c H' locs' 0 0 QQ (F0 m (pc + 3) ls (.int x :: rest))) : W p l e R s m args below meth c H locs 0 0 QQ (F0 m pc ls st0) := by
  refine cl_V (j := j) (As := As) hC hw hM hl hm hws hR hj hcl hn hsz hst hrm hdg (fun r M' H' locs' hq hw' => ?_)
  obtain ⟨rfl, x, rfl, hq⟩ := hq
  exact kk H' locs' x hq hw'
theorem cl_Sip {Qx : Int32 → Prop} (hC : Cx p m c cc nL s args own D ce cA tb A) (hw : Wd D ce A s H locs M) (hM : Ct l y ws rm D ce cA tb As M (QIp M Qx)) (hl : Cond.methodLink own idx y ∈ WA) (hm : Ms y bytes maxL ret n) (hws : ws = Cond.code y bytes maxL ret :: WA)
    (hR : rm.cells = 0 ∧ rm.slots = 0 ∧ rm.frames + 1 ≤ R.frames ∧ 8 + (maxL + 11) + rm.locals ≤ R.locals) (hn : As.length = n) (hsz : ls.size = nL) (hst : st0 = As.reverse ++ rest) (hrm : (rest.map fun v => v.category).sum ≤ 8) (hdg : decode cc pc = .ok (.invokestatic idx, 3))
    (kk : ∀ (H' : Heap) (locs' : List Loc) (x : Int32), Qx x → Wd D ce A s H' locs' M → W p l e R s m args below meth c H' locs' 0 0 QQ (F0 m (pc + 3) ls (.int x :: rest))) : W p l e R s m args below meth c H locs 0 0 QQ (F0 m pc ls st0) := by
  refine cl_S (As := As) hC hw hM hl hm hws hR hn hsz hst hrm hdg (fun r M' H' locs' hq hw' => ?_)
  obtain ⟨rfl, x, rfl, hq⟩ := hq
  exact kk H' locs' x hq hw'
theorem cl_Vvp {j : Nat} {Qx : Prop} (hC : Cx p m c cc nL s args own D ce cA tb A) (hw : Wd D ce A s H locs M) (hM : Ct l y ws rm D ce cA tb (.ref b :: As) M (QVp M Qx)) (hl : Cond.methodLink own idx y ∈ WA) (hm : Mw y Cn bytes maxL ret n) (hws : ws = Cond.code y bytes maxL ret :: WA)
    (hR : rm.cells = 0 ∧ rm.slots = 0 ∧ rm.frames + 1 ≤ R.frames ∧ 8 + (maxL + 11) + rm.locals ≤ R.locals) (hj : (ce M)[j]? = some (b, .inr (ci, fs))) (hcl : vcl[ci]? = some (Cn, Tn, N)) (hn : As.length = n) (hsz : ls.size = nL) (hst : st0 = As.reverse ++ .ref b :: rest) (hrm : (rest.map fun v => v.category).sum ≤ 8) (hdg : decode cc pc = .ok (.invokevirtual idx, 3))
    (kk : ∀ (H' : Heap) (locs' : List Loc), Qx → Wd D ce A s H' locs' M → W p l e R s m args below meth c H' locs' 0 0 QQ (F0 m (pc + 3) ls rest)) : W p l e R s m args below meth c H locs 0 0 QQ (F0 m pc ls st0) := by
  refine cl_V (j := j) (As := As) hC hw hM hl hm hws hR hj hcl hn hsz hst hrm hdg (fun r M' H' locs' hq hw' => ?_)
  obtain ⟨rfl, rfl, hq⟩ := hq
  exact kk H' locs' hq hw'
theorem cl_Svp {Qx : Prop} (hC : Cx p m c cc nL s args own D ce cA tb A) (hw : Wd D ce A s H locs M) (hM : Ct l y ws rm D ce cA tb As M (QVp M Qx)) (hl : Cond.methodLink own idx y ∈ WA) (hm : Ms y bytes maxL ret n) (hws : ws = Cond.code y bytes maxL ret :: WA)
    (hR : rm.cells = 0 ∧ rm.slots = 0 ∧ rm.frames + 1 ≤ R.frames ∧ 8 + (maxL + 11) + rm.locals ≤ R.locals) (hn : As.length = n) (hsz : ls.size = nL) (hst : st0 = As.reverse ++ rest) (hrm : (rest.map fun v => v.category).sum ≤ 8) (hdg : decode cc pc = .ok (.invokestatic idx, 3))
    (kk : ∀ (H' : Heap) (locs' : List Loc), Qx → Wd D ce A s H' locs' M → W p l e R s m args below meth c H' locs' 0 0 QQ (F0 m (pc + 3) ls rest)) : W p l e R s m args below meth c H locs 0 0 QQ (F0 m pc ls st0) := by
  refine cl_S (As := As) hC hw hM hl hm hws hR hn hsz hst hrm hdg (fun r M' H' locs' hq hw' => ?_)
  obtain ⟨rfl, rfl, hq⟩ := hq
  exact kk H' locs' hq hw'
theorem rt_i {Qc : Option Value → Mem → Prop} {v : Int32} (hQQ : QQ = MQ below (PostC D ce A Qc) args s 0 0 A) (hx : p.tables.exec = Jvm.exec) (hb : c.code = cc) (hr : meth.sig.returnType = some .int) (hlocks : meth.locks = false) (hw : Wd D ce A s H locs M) (hq : Qc (some (.int v)) M) (hdg : decode cc pc = .ok (.ireturn, 1)) : W p l e R s m args below meth c H locs 0 0 QQ (F0 m pc ls [.int v]) := by
  subst hQQ
  exact W.iret hx hb hr (fun t ht hW => ⟨_, _, rfl, hq, by rw [ht]; exact hw.1, hw.2.F ht⟩) hw.2.2.2 hdg
theorem rt_z {Qc : Option Value → Mem → Prop} {v : Int32} (hQQ : QQ = MQ below (PostC D ce A Qc) args s 0 0 A) (hx : p.tables.exec = Jvm.exec) (hb : c.code = cc) (hr : meth.sig.returnType = some .boolean) (hlocks : meth.locks = false) (hw : Wd D ce A s H locs M) (hz : isB v) (hq : Qc (some (.int v)) M) (hdg : decode cc pc = .ok (.ireturn, 1)) : W p l e R s m args below meth c H locs 0 0 QQ (F0 m pc ls [.int v]) := by
  subst hQQ
  exact W.zret hx hb hr (isB_nar hz) (fun t ht hW => ⟨_, _, rfl, hq, by rw [ht]; exact hw.1, hw.2.F ht⟩) hw.2.2.2 hdg
theorem rt_v {Qc : Option Value → Mem → Prop} (hQQ : QQ = MQ below (PostC D ce A Qc) args s 0 0 A) (hx : p.tables.exec = Jvm.exec) (hb : c.code = cc) (hr : meth.sig.returnType = none) (hlocks : meth.locks = false) (hw : Wd D ce A s H locs M) (hq : Qc none M) (hdg : decode cc pc = .ok (.return_, 1)) : W p l e R s m args below meth c H locs 0 0 QQ (F0 m pc ls []) := by
  subst hQQ
  exact W.vret hx hb hr (fun t ht hW => ⟨_, _, rfl, hq, by rw [ht]; exact hw.1, hw.2.F ht⟩) hw.2.2.2 hdg
theorem rt_d {Qc : Option Value → Mem → Prop} {v : UInt64} (hQQ : QQ = MQ below (PostC D ce A Qc) args s 0 0 A) (hx : p.tables.exec = Jvm.exec) (hb : c.code = cc) (hr : meth.sig.returnType = some .double) (hlocks : meth.locks = false) (hw : Wd D ce A s H locs M) (hq : Qc (some (.double v)) M) (hdg : decode cc pc = .ok (.dreturn, 1)) : W p l e R s m args below meth c H locs 0 0 QQ (F0 m pc ls [.double v]) := by
  subst hQQ
  exact W.dret hx hb hr (fun t ht hW => ⟨_, _, rfl, hq, by rw [ht]; exact hw.1, hw.2.F ht⟩) hw.2.2.2 hdg
end BASE2
