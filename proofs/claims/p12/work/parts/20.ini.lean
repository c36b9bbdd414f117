/-! Constructors: from the new object alone to a world of cells. -/
def PreI (D : va_G) (cA : ClassId) (av : List Value) (w0 : va_W) (sz : Nat) : Array Value → State → Prop :=
  va_Pc av (fun U => U.heap.size = sz ∧ va_P D vcl w0 U.heap ∧ va_K D vcl [(cA, .int)] U ∧ va_D (fun _ => True) w0)
def PostI (D : va_G) (A : Nat → Prop) (fin : (Nat → Nat) → va_W) : Array Value → State → Outcome → State → Prop := fun _ st oc t =>
  ∃ q : Nat → Nat, oc = .returned none ∧ va_P D vcl (fin q) t.heap ∧ va_D A (fin q) ∧ va_F A st t
def Ini (l : Launch) (y : MethodName) (ws : List Cond) (rm : Room) (D : va_G) (cA : ClassId) (av : List Value) (w0 : va_W) (fin : (Nat → Nat) → va_W) (mc ms : Nat) : Prop :=
  ∀ sz, Met l y ws rm (PreI D cA av w0 sz) (PostI D (va_A w0 sz) fin) mc ms (va_A w0 sz)
/-- the two outer constructors: they run a method of theirs at the end, and so they want the tables -/
def PreJ (D : va_G) (cA : ClassId) (tb : Nat → Nat) (av : List Value) (w0 : va_W) (sz : Nat) : Array Value → State → Prop :=
  va_Pc av (fun U => U.heap.size = sz ∧ va_P D vcl w0 U.heap ∧ va_K D vcl [(cA, .int)] U ∧ va_D (fun _ => True) w0 ∧ Sx tb (va_A w0 sz) U U.heap ∧ Tn U)
def PostJ (D : va_G) (A : Nat → Prop) (h0 : Nat) (ce : (Nat → Nat) → Mem → va_W) (Q : Mem → Prop) : Array Value → State → Outcome → State → Prop := fun _ st oc t =>
  ∃ (ad : Nat → Nat) (M' : Mem), oc = .returned none ∧ ad 0 = h0 ∧ Q M' ∧ va_P D vcl (ce ad M') t.heap ∧ va_D A (ce ad M') ∧ va_F A st t
def Inj (l : Launch) (y : MethodName) (ws : List Cond) (rm : Room) (D : va_G) (cA : ClassId) (tb : Nat → Nat) (av : List Value) (h0 : Nat) (w0 : va_W) (ce : (Nat → Nat) → Mem → va_W) (Q : Mem → Prop) (mc ms : Nat) : Prop :=
  ∀ sz, Met l y ws rm (PreJ D cA tb av w0 sz) (PostJ D (va_A w0 sz) h0 ce Q) mc ms (va_A w0 sz)
theorem PreI_blind {D : va_G} {cA : ClassId} {av : List Value} {w0 : va_W} {sz : Nat} : FrameBlind (PreI D cA av w0 sz) := by
  intro a U g mk q
  obtain ⟨q0, q1, qP, qK, qD⟩ := q
  exact ⟨q0, q1, qP, va_K.moved (u := U) (U := U.calling g mk a) (Vm.Alike.refl U.vm) qK, qD⟩
theorem PreJ_blind {D : va_G} {cA : ClassId} {tb : Nat → Nat} {av : List Value} {w0 : va_W} {sz : Nat} : FrameBlind (PreJ D cA tb av w0 sz) := by
  intro a U g mk q
  obtain ⟨q0, q1, qP, qK, qD, qS, qN⟩ := q
  exact ⟨q0, q1, qP, va_K.moved (u := U) (U := U.calling g mk a) (Vm.Alike.refl U.vm) qK, qD, Sx.moved (u := U) (U := U.calling g mk a) (Vm.Alike.refl U.vm) qS, Tn.same (u := U) (U := U.calling g mk a) rfl qN⟩
theorem gd_I {y : MethodName} {bytes : ByteArray} {maxL : Nat} {ret : Option FieldType} (h : Cond.code y bytes maxL ret ∈ WA) : GoodIn WA (Cond.code y bytes maxL ret :: WA) := by
  intro w hw
  rcases List.mem_cons.mp hw with rfl | hw
  · exact Wa_good h
  · exact Wa_good hw
section INI
variable {p : Program} {l : Launch} {e : Env} {R : Room} {s : State} {m : MethodId} {args : Array Value} {below : List Frame} {meth : Method} {c : Code} {H : Heap} {locs : List Loc} {QQ : State → Prop} {cells slots mc ms : Nat}
variable {cc : ByteArray} {pc nL : Nat} {ls : Array Slot} {rest st0 As : List Value} {D : va_G} {cA : ClassId} {tb : Nat → Nat} {A : Nat → Prop} {own : String} {w ws0 : va_W} {b : Nat} {e0 : va_E} {fin : (Nat → Nat) → va_W}
/-- an array of ints: its class is the one that we know -/
theorem nw_i (S : CallFix p m c cc nL s args WA own) (hia : Cond.arrayClass .int ∈ WA) (hK : va_K D vcl [(cA, .int)] s) (hP : va_P D vcl w H) (hD : va_D A w) (hS : va_S A s.heap H locs) (hA : ∀ q, s.heap.size ≤ q → A q)
    {n : Int32} {N : Nat} (hn : ¬ n < 0) (hN : n.toNatClampNeg = N) (hb4 : N * componentBytes .int ≤ 536870912) (hcells : cells + 1 ≤ R.cells) (hslots : slots + N ≤ R.slots) (hdg : decode cc pc = .ok (.newarray .int, 2))
    (kk : ∀ (q : Nat) (H1 : Heap), va_P D vcl (w ++ [(q, .inl (cA, N, .inl (fun _ => 0)))]) H1 → va_D A (w ++ [(q, .inl (cA, N, .inl (fun _ => 0)))]) → va_S A s.heap H1 locs → W p l e R s m args below meth c H1 locs (cells + 1) (slots + N) QQ (F0 m (pc + 2) ls (.ref q :: rest))) :
    W p l e R s m args below meth c H locs cells slots QQ (F0 m pc ls (.int n :: rest)) := by
  refine va_newa (atype := .int) (ty := .int) (a0 := (N, .inl (fun _ => 0))) S.1 S.2.1 (S.2.2.2.2 _ hia) rfl hK hP hD hS hA (fun _ => rfl) hn hN hb4 hcells hslots hdg fun q cA' H1 hK' hP' hD' hS' => ?_
  have h1 : s.vm.findClass ("[" ++ (FieldType.int).toString) = some cA := (hK.2 0 _ rfl).2
  have h2 : s.vm.findClass ("[" ++ (FieldType.int).toString) = some cA' := (hK'.2 1 _ rfl).2
  cases h1.symm.trans h2
  exact kk q H1 hP' hD' hS'
theorem ob_init (S : CallFix p m c cc nL s args WA own) {idx a : Nat} (hl : Cond.methodLink own idx Lib.objectInit ∈ WA) (hi : Cond.instanceMethod Lib.objectInit ∈ WA) (hc : Cond.code Lib.objectInit ⟨#[0xb1]⟩ 1 none ∈ WA) (hsz : ls.size = nL) (hdg : decode cc pc = .ok (.invokespecial idx, 3)) (hrm : (rest.map fun v => v.category).sum ≤ 8) (hR : 1 ≤ R.frames ∧ 20 ≤ R.locals)
    (kk : W p l e R s m args below meth c H locs cells slots QQ (F0 m (pc + 3) ls rest)) : W p l e R s m args below meth c H locs cells slots QQ (F0 m pc ls (.ref a :: rest)) := by
  have h : (F0 m pc ls (.ref a :: rest)).monitorRoom = 0 := rfl
  have h2 : 2 * (F0 m pc ls (.ref a :: rest)).monitorRoom + (rest.map fun v => v.category).sum + 12 ≤ R.locals := by rw [h]; have := hR.2; omega
  exact W.objInit S.1 S.2.1 S.2.2.2.1 (S.2.2.2.2 _ hl) (S.2.2.2.2 _ hi) (S.2.2.2.2 _ hc) rfl (hsz.trans S.2.2.1.symm) rfl hdg hR.1 h2 kk
/-- behind a constructor's call: the object, the last cell, has become a world -/
theorem cl_ini {a : Array Value} (hr : va_Run p l e R s m args below meth c H locs cells slots mc ms (F0 m pc ls st0) rest (PostI D (va_A [(b, e0)] H.size) fin a) (va_A [(b, e0)] H.size)) (hP : va_P D vcl (w ++ [(b, e0)]) H) (hD : va_D A (w ++ [(b, e0)])) (hS : va_S A s.heap H locs) (hA : ∀ q, s.heap.size ≤ q → A q)
    (kk : ∀ (q : Nat → Nat) (H1 : Heap) (locs1 : List Loc), va_P D vcl (w ++ fin q) H1 → va_D A (w ++ fin q) → va_S A s.heap H1 locs1 → W p l e R s m args below meth c H1 locs1 (cells + mc) (slots + ms) QQ (F0 m (pc + 3) ls rest)) : W p l e R s m args below meth c H locs cells slots QQ (F0 m pc ls st0) := by
  intro T hT X
  obtain ⟨v, st₀, t, T', L, h0, X', hL, e1, e2, ⟨q, hv, hP', hD', hz, hk⟩, st⟩ := hr T hT X
  cases hv
  rw [h0] at hz hk
  have hsub : ∀ z, va_A [(b, e0)] H.size z → A z := by
    intro z hz
    rcases hz with ⟨k, e, h⟩ | h
    · cases k with
      | zero => cases h; exact hD.2 _ _ (glast w _)
      | succ k => cases h
    · exact hA z (Nat.le_trans hS.1 h)
  have hout : ∀ (k : Nat) (z : Nat × va_E), w[k]? = some z → z.1 < H.size ∧ ¬ va_A [(b, e0)] H.size z.1 := by
    intro k z hkz
    have hlt := (hP k z (gapp hkz)).lt
    refine ⟨hlt, ?_⟩
    rintro (⟨k2, e2, h⟩ | h)
    · cases k2 with
      | zero =>
        have hbz : b = z.1 := by cases h; rfl
        have h3 := hD.1 k w.length z (b, e0) (gapp hkz) (glast w _) hbz.symm
        have h4 := (List.getElem?_eq_some_iff.mp hkz).1
        omega
      | succ k2 => cases h
    · omega
  have hPw : va_P D vcl w T'.heap := (vaP_left hP).kept (fun k z hkz => by rw [e1]; exact hk z.1 (hout k z hkz).1 (hout k z hkz).2)
  have hDw : va_D A w := ⟨fun i j x y hi hj => hD.1 i j x y (gapp hi) (gapp hj), fun k z hkz => hD.2 k z (gapp hkz)⟩
  obtain ⟨t2, a1, b1⟩ := kk q T'.heap (locs ++ L) (hPw.app (by rw [e1]; exact hP')) (va_D.app hDw (hD'.weaken (fun _ z _ h => hsub _ h)) (fun i j x z hi hj he => (hout i x hi).2 (by rw [he]; exact hD'.2 j z hj)))
    ⟨Nat.le_trans hS.1 (by rw [e1]; exact hz), fun z h1 h2 => by rw [e1, hk z (Nat.lt_of_lt_of_le h1 hS.1) (fun y => h2 (hsub z y))]; exact hS.2.1 z h1 h2, fun z hz => by
      rcases List.mem_append.mp hz with h | h
      · exact hS.2.2 z h
      · exact hsub _ (hL z h)⟩ T' rfl X'
  exact ⟨t2, st t2 a1, b1⟩
/-- a call that returns, from a method that has made cells -/
theorem hc_retC {ce : Mem → va_W} {M : Mem} {y : MethodName} {ws : List Cond} {rm : Room} {j ci idx n maxL N : Nat} {fs : List Value} {Cn : String} {Tn : u_T} {bytes : ByteArray} {ret : Option FieldType} {mQ : Option Value → Mem → Prop} (hC : Cx p m c cc nL s args own D ce cA tb A) (hw : Wd D ce A s H locs M) (hM : Ct l y ws rm D ce cA tb (.ref b :: As) M mQ) (hl : Cond.methodLink own idx y ∈ WA) (hm : Mw y Cn bytes maxL ret n) (hws : ws = Cond.code y bytes maxL ret :: WA)
    (hR : rm.cells = 0 ∧ rm.slots = 0 ∧ rm.frames + 1 ≤ R.frames ∧ 8 + (maxL + 11) + rm.locals ≤ R.locals) (hf : cells ≤ R.cells ∧ slots ≤ R.slots) (hj : (ce M)[j]? = some (b, .inr (ci, fs))) (hcl : vcl[ci]? = some (Cn, Tn, N)) (hn : As.length = n) (hsz : ls.size = nL) (hst : st0 = As.reverse ++ .ref b :: rest) (hrm : (rest.map fun v => v.category).sum ≤ 8) (hdg : decode cc pc = .ok (.invokevirtual idx, 3))
    (kk : ∀ (r : Option Value) (M' : Mem) (H' : Heap) (locs' : List Loc), mQ r M' → Wd D ce A s H' locs' M' → (∀ q : Nat, q < H.size → ¬ va_A (ce M) H.size q → H'[q]? = H[q]?) → W p l e R s m args below meth c H' locs' cells slots QQ (F0 m (pc + 3) ls (r.toList ++ rest))) : W p l e R s m args below meth c H locs cells slots QQ (F0 m pc ls st0) := by
  subst hws
  have cw : CallW R s args own Cn idx y bytes maxL ret (Cond.code y bytes maxL ret :: WA) rm 0 0 n := cwV n hC.1.2.2.2.2 (gd_V hl hm) rfl hR.1 hR.2.1 hm.2.2.2.2 hR.2.2
  have hr := va_runV (e := e) (below := below) (meth := meth) (locs := locs) (cells := cells) (slots := slots) (g := F0 m pc ls st0) (As := As) (rest := rest) (b := b) hC.1 (hM H.size) cw ⟨PreC_blind, va_recv hC.2.1 hw.1 hcl hj, hC.pre hw _⟩ rfl hn hsz hst (lv_room hrm) hdg hf
  have hA := hC.sub hw
  obtain ⟨hP, hS⟩ := hw
  intro T hT X
  obtain ⟨v, st₀, t, T', L, h0, X', hL, e1, e2, ⟨r, M', hv, hq, hP', hz, hk⟩, st⟩ := hr T hT X
  have hvr : v = r := by cases hv; rfl
  subst hvr
  rw [h0] at hz hk
  obtain ⟨t2, a1, b1⟩ := kk v M' T'.heap (locs ++ L) hq ⟨by rw [e1]; exact hP', ⟨Nat.le_trans hS.1 (by rw [e1]; exact hz), fun q h1 h2 => by rw [e1, hk q (Nat.lt_of_lt_of_le h1 hS.1) (fun z => h2 (hA q z))]; exact hS.2.1 q h1 h2, fun q hq => by
      rcases List.mem_append.mp hq with h | h
      · exact hS.2.2 q h
      · exact hA _ (hL q h)⟩⟩ (fun q h1 h2 => by rw [e1]; exact hk q h1 h2) T' rfl X'
  exact ⟨t2, st t2 a1, b1⟩
end INI
section INI2
variable {p : Program} {l : Launch} {e : Env} {R : Room} {s : State} {m : MethodId} {args : Array Value} {below : List Frame} {meth : Method} {c : Code} {H : Heap} {locs : List Loc} {QQ : State → Prop} {cells slots mc ms : Nat}
variable {cc : ByteArray} {pc nL : Nat} {ls : Array Slot} {rest st0 As : List Value} {D : va_G} {cA : ClassId} {A : Nat → Prop} {own host : String} {w : va_W} {b : Nat} {e0 : va_E} {fin : (Nat → Nat) → va_W}
variable {y : MethodName} {ws : List Cond} {rm : Room} {idx n maxL : Nat} {bytes : ByteArray}
theorem vaD_last {x : Nat × va_E} (hD : va_D A (w ++ [x])) : va_D A [x] := by
  refine ⟨fun i j p q hi hj _ => ?_, fun k q hkq => ?_⟩
  · cases i with
    | zero => cases j with
      | zero => rfl
      | succ j => cases hj
    | succ i => cases hi
  · cases k with
    | zero => cases hkq; exact hD.2 _ _ (glast w _)
    | succ k => cases hkq
theorem cl_iniL (S : CallFix p m c cc nL s args WA own) (hK : va_K D vcl [(cA, .int)] s) (hM : Ini l y ws rm D cA (.ref b :: As) [(b, e0)] fin mc ms) (hl : Cond.methodLink own idx y ∈ WA) (hi : Cond.instanceMethod y ∈ WA) (hini : Cond.initialized y.cls ∈ WA) (hcode : Cond.code y bytes maxL none ∈ WA) (hws : ws = Cond.code y bytes maxL none :: WA) (hy1 : y.name = "<init>")
    (hd : y.cls ≠ "java/lang/invoke/MethodHandle" ∧ y.cls ≠ "java/lang/invoke/VarHandle" ∧ (parseMethodDescriptor y.desc).map (fun d => d.parameters.length) = some n) (hR : rm.cells = mc ∧ rm.slots = ms ∧ rm.frames + 1 ≤ R.frames ∧ 8 + (maxL + 11) + rm.locals ≤ R.locals) (hn : As.length = n) (hsz : ls.size = nL) (hst : st0 = As.reverse ++ .ref b :: rest) (hrm : (rest.map fun v => v.category).sum ≤ 8) (hdg : decode cc pc = .ok (.invokespecial idx, 3)) (hf : cells + mc ≤ R.cells ∧ slots + ms ≤ R.slots)
    (hP : va_P D vcl (w ++ [(b, e0)]) H) (hD : va_D A (w ++ [(b, e0)])) (hS : va_S A s.heap H locs) (hA : ∀ q, s.heap.size ≤ q → A q)
    (kk : ∀ (q : Nat → Nat) (H1 : Heap) (locs1 : List Loc), va_P D vcl (w ++ fin q) H1 → va_D A (w ++ fin q) → va_S A s.heap H1 locs1 → W p l e R s m args below meth c H1 locs1 (cells + mc) (slots + ms) QQ (F0 m (pc + 3) ls rest)) : W p l e R s m args below meth c H locs cells slots QQ (F0 m pc ls st0) := by
  subst hws
  exact cl_ini (va_runI (As := As) (rest := rest) S (hM H.size) (cwI n S.2.2.2.2 (gd_I hcode) rfl hR.1 hR.2.1 (S.2.2.2.2 _ hini) (S.2.2.2.2 _ hl) (S.2.2.2.2 _ hi) hy1 hd hR.2.2) ⟨PreI_blind, fun U hU hW => ⟨rfl, by rw [hU], by rw [hU]; exact vaP_last hP, va_K.moved hW.alike hK, (vaD_last hD).weaken (fun _ _ _ _ => trivial)⟩⟩ rfl hn hsz hst (lv_room hrm) hdg hf) hP hD hS hA kk
theorem cl_iniN (S : CallFix p m c cc nL s args WA own) (hK : va_K D vcl [(cA, .int)] s) (hM : Ini l y ws rm D cA (.ref b :: As) [(b, e0)] fin mc ms) (hl : va_Nw (.methodLinkNest own idx y host) s) (hi : Cond.instanceMethod y ∈ WA) (hini : Cond.initialized y.cls ∈ WA) (hcode : Cond.code y bytes maxL none ∈ WA) (hws : ws = Cond.code y bytes maxL none :: WA) (hy1 : y.name = "<init>")
    (hd : y.cls ≠ "java/lang/invoke/MethodHandle" ∧ y.cls ≠ "java/lang/invoke/VarHandle" ∧ (parseMethodDescriptor y.desc).map (fun d => d.parameters.length) = some n) (hR : rm.cells = mc ∧ rm.slots = ms ∧ rm.frames + 1 ≤ R.frames ∧ 8 + (maxL + 11) + rm.locals ≤ R.locals) (hn : As.length = n) (hsz : ls.size = nL) (hst : st0 = As.reverse ++ .ref b :: rest) (hrm : (rest.map fun v => v.category).sum ≤ 8) (hdg : decode cc pc = .ok (.invokespecial idx, 3)) (hf : cells + mc ≤ R.cells ∧ slots + ms ≤ R.slots)
    (hP : va_P D vcl (w ++ [(b, e0)]) H) (hD : va_D A (w ++ [(b, e0)])) (hS : va_S A s.heap H locs) (hA : ∀ q, s.heap.size ≤ q → A q)
    (kk : ∀ (q : Nat → Nat) (H1 : Heap) (locs1 : List Loc), va_P D vcl (w ++ fin q) H1 → va_D A (w ++ fin q) → va_S A s.heap H1 locs1 → W p l e R s m args below meth c H1 locs1 (cells + mc) (slots + ms) QQ (F0 m (pc + 3) ls rest)) : W p l e R s m args below meth c H locs cells slots QQ (F0 m pc ls st0) := by
  subst hws
  exact cl_ini (va_runIN (As := As) (rest := rest) S (hM H.size) ⟨va_cnB n S.2.2.2.2 (gd_I hcode) rfl hR.1 hR.2.1 hl (S.2.2.2.2 _ hini) hd hR.2.2, hy1, S.2.2.2.2 _ hi⟩ ⟨PreI_blind, fun U hU hW => ⟨rfl, by rw [hU], by rw [hU]; exact vaP_last hP, va_K.moved hW.alike hK, (vaD_last hD).weaken (fun _ _ _ _ => trivial)⟩⟩ rfl hn hsz hst (lv_room hrm) hdg hf) hP hD hS hA kk
end INI2
