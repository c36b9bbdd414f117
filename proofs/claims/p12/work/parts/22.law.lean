/-! The law: its world (class, reference, two arrays of one place), and its calls. -/
theorem vaP_iff {D : va_G} {cl : List vw_C} {ws : va_W} {H : Heap} : va_P D cl ws H ↔ ∀ q ∈ ws, va_at D cl q H := by
  constructor
  · intro h q hq
    obtain ⟨k, hk⟩ := List.getElem?_of_mem hq
    exact h k q hk
  · intro h k q hk
    exact h q (List.mem_of_getElem? hk)
theorem vaD_apart {A : Nat → Prop} {u v : va_W} (h : va_D A (u ++ v)) {x z : Nat × va_E} (hx : x ∈ u) (hz : z ∈ v) : x.1 ≠ z.1 := by
  intro he
  obtain ⟨i, hi⟩ := List.getElem?_of_mem hx
  obtain ⟨j, hj⟩ := List.getElem?_of_mem hz
  have h1 : (u ++ v)[u.length + j]? = some z := by rw [List.getElem?_append_right (Nat.le_add_right _ _), Nat.add_sub_cancel_left]; exact hj
  have h2 := h.1 i (u.length + j) x z (gapp hi) h1 he
  have h3 := (List.getElem?_eq_some_iff.mp hi).1
  omega
theorem vaD_left {A : Nat → Prop} {u v : va_W} (h : va_D A (u ++ v)) : va_D A u := ⟨fun i j x y hi hj => h.1 i j x y (gapp hi) (gapp hj), fun k z hkz => h.2 k z (gapp hkz)⟩
theorem vaD_right {A : Nat → Prop} {u v : va_W} (h : va_D A (u ++ v)) : va_D A v := by
  have key : ∀ (k : Nat) (q : Nat × va_E), v[k]? = some q → (u ++ v)[u.length + k]? = some q := by
    intro k q hk
    rw [List.getElem?_append_right (Nat.le_add_right _ _), Nat.add_sub_cancel_left]; exact hk
  refine ⟨fun i j x y hi hj he => ?_, fun k z hkz => h.2 _ z (key k z hkz)⟩
  have := h.1 _ _ x y (key i x hi) (key j y hj) he
  omega
/-- cells that are not the callee's are as they were -/
theorem va_keep {D : va_G} {cl : List vw_C} {ws wc : va_W} {H H' : Heap} (hP : va_P D cl ws H) (hk : ∀ q : Nat, q < H.size → ¬ va_A wc H.size q → H'[q]? = H[q]?) {q : Nat × va_E} (hq : q ∈ ws) (hn : ∀ z ∈ wc, z.1 ≠ q.1) : va_at D cl q H' := by
  have h1 := vaP_iff.mp hP q hq
  refine h1.kept (hk q.1 h1.lt ?_)
  rintro (⟨k, e, h⟩ | h)
  · exact hn _ (List.mem_of_getElem? h) rfl
  · have := h1.lt; omega
def oL (cL : ClassId) (f : Nat → Int64) : va_E := .inl (cL, 1, .inr (.inl f))
def oD (cD : ClassId) (g : Nat → UInt64) : va_E := .inl (cD, 1, .inr (.inr (.inr (.inl g))))
def Al (s : State) : Nat → Prop := fun q => s.heap.size ≤ q
def Lc (ad ad2 : Nat → Nat) (cA : ClassId) (o od : Nat) (M N : Mem) (x z : va_E) : va_W := ceC ad cA M ++ (ceR ad2 cA N ++ ([(o, x)] ++ [(od, z)]))
theorem Lc_fst {ad ad2 : Nat → Nat} {cA : ClassId} {o od : Nat} {M M' N N' : Mem} {x x' z z' : va_E} : (Lc ad ad2 cA o od M N x z).map Prod.fst = (Lc ad ad2 cA o od M' N' x' z').map Prod.fst := rfl
/-- what stays through the law -/
def Lx (p : Program) (m : MethodId) (c : Code) (cc : ByteArray) (nL : Nat) (s : State) (args : Array Value) (D : va_G) (ad ad2 : Nat → Nat) (cA cL cD : ClassId) (tb : Nat → Nat) (o od : Nat) : Prop :=
  CallFix p m c cc nL s args WA "TileConsoleLaw" ∧ va_K D vcl [(cA, .int)] s ∧ va_K D vcl [(cL, .long)] s ∧ va_K D vcl [(cD, .double)] s ∧ Sx tb (Al s) s s.heap ∧ Tx (Al s) s s.heap ∧ ∀ M N x z, va_D (Al s) (Lc ad ad2 cA o od M N x z)
def Lw (D : va_G) (ad ad2 : Nat → Nat) (cA : ClassId) (o od : Nat) (s : State) (H : Heap) (locs : List Loc) (M N : Mem) (x z : va_E) : Prop := va_P D vcl (Lc ad ad2 cA o od M N x z) H ∧ va_S (Al s) s.heap H locs
section LAW
variable {p : Program} {l : Launch} {e : Env} {R : Room} {s : State} {m : MethodId} {args : Array Value} {below : List Frame} {meth : Method} {c : Code} {H : Heap} {locs : List Loc} {QQ : State → Prop} {cells slots : Nat}
variable {cc : ByteArray} {pc nL : Nat} {ls : Array Slot} {rest st0 As : List Value} {D : va_G} {ad ad2 : Nat → Nat} {cA cL cD : ClassId} {tb : Nat → Nat} {o od : Nat} {M N : Mem} {x z : va_E}
variable {y : MethodName} {ws : List Cond} {rm : Room} {idx n maxL : Nat} {bytes : ByteArray} {ret : Option FieldType}
theorem Lx.ref (hX : Lx p m c cc nL s args D ad ad2 cA cL cD tb o od) : Cx p m c cc nL s args "TileConsoleLaw" D (ceR ad2 cA) cA tb (Al s) :=
  ⟨hX.1, hX.2.1, fun N => vaD_left (vaD_right (hX.2.2.2.2.2.2 (fun _ _ => 0) N (oL cL (fun _ => 0)) (oL cL (fun _ => 0)))), fun _ h => h, hX.2.2.2.2.1⟩
/-- the law calls the reference -/
theorem lr_ref {fs : List Value} {mQ : Option Value → Mem → Prop} (hX : Lx p m c cc nL s args D ad ad2 cA cL cD tb o od) (hw : Lw D ad ad2 cA o od s H locs M N x z) (hM : Ct l y ws rm D (ceR ad2 cA) cA tb (.ref (ad2 0) :: As) N mQ) (hl : Cond.methodLink "TileConsoleLaw" idx y ∈ WA) (hm : Mw y R_R bytes maxL ret n) (hws : ws = Cond.code y bytes maxL ret :: WA)
    (hR : rm.cells = 0 ∧ rm.slots = 0 ∧ rm.frames + 1 ≤ R.frames ∧ 8 + (maxL + 11) + rm.locals ≤ R.locals) (hf : cells ≤ R.cells ∧ slots ≤ R.slots) (hn : As.length = n) (hsz : ls.size = nL) (hst : st0 = As.reverse ++ .ref (ad2 0) :: rest) (hrm : (rest.map fun v => v.category).sum ≤ 8) (hdg : decode cc pc = .ok (.invokevirtual idx, 3))
    (kk : ∀ (r : Option Value) (N' : Mem) (H' : Heap) (locs' : List Loc), mQ r N' → Lw D ad ad2 cA o od s H' locs' M N' x z → W p l e R s m args below meth c H' locs' cells slots QQ (F0 m (pc + 3) ls (r.toList ++ rest))) : W p l e R s m args below meth c H locs cells slots QQ (F0 m pc ls st0) := by
  have hD := hX.2.2.2.2.2.2 M N x z
  have hPi := vaP_iff.mp hw.1
  refine hc_retC (j := 0) hX.ref ⟨vaP_iff.mpr fun q hq => hPi q (List.mem_append_right _ (List.mem_append_left _ hq)), hw.2⟩ hM hl hm hws hR hf rfl rfl hn hsz hst hrm hdg fun r N' H' locs' hq hw' hk => kk r N' H' locs' hq ⟨vaP_iff.mpr fun q hq => ?_, hw'.2⟩
  rcases List.mem_append.mp hq with h | h
  · exact va_keep hw.1 hk (List.mem_append_left _ h) fun z hz he => vaD_apart hD h (List.mem_append_left _ hz) he.symm
  · rcases List.mem_append.mp h with h | h
    · exact vaP_iff.mp hw'.1 q h
    · exact va_keep hw.1 hk (List.mem_append_right _ (List.mem_append_right _ h)) fun z hz he => vaD_apart (vaD_right hD) hz h he
/-- a static method with catches is called -/
theorem runH {Pc : Array Value → State → Prop} {Qc : Array Value → State → Outcome → State → Prop} {free : Addr → Prop} {hh : List (Nat × Nat × Nat × Nat)} {mc ms : Nat} (S : CallFix p m c cc nL s args WA "TileConsoleLaw") (hM : Met l y ws rm Pc Qc mc ms free) (hl : Cond.methodLink "TileConsoleLaw" idx y ∈ WA) (hss : Cond.static y ∈ WA) (hini : Cond.initialized y.cls ∈ WA) (hcode : Cond.codeWith y bytes maxL ret hh ∈ WA) (hws : ws = Cond.codeWith y bytes maxL ret hh :: WA)
    (hd : y.cls ≠ "java/lang/invoke/MethodHandle" ∧ y.cls ≠ "java/lang/invoke/VarHandle" ∧ (parseMethodDescriptor y.desc).map (fun d => d.parameters.length) = some n) (hR : rm.cells = mc ∧ rm.slots = ms ∧ rm.frames + 1 ≤ R.frames ∧ 8 + (maxL + 11) + rm.locals ≤ R.locals) (hp : PreS s H Pc As) (hn : As.length = n) (hsz : ls.size = nL) (hst : st0 = As.reverse ++ rest) (hrm : (rest.map fun v => v.category).sum ≤ 8) (hdg : decode cc pc = .ok (.invokestatic idx, 3)) (hf : cells + mc ≤ R.cells ∧ slots + ms ≤ R.slots) :
    va_Run p l e R s m args below meth c H locs cells slots mc ms (F0 m pc ls st0) rest (Qc As.toArray) free := by
  subst hws
  have hws : ∀ w ∈ (Cond.codeWith y bytes maxL ret hh :: WA), ∀ (a' : Array Value) (U : State), s.WarmedH U.vm → w.before a' U = true := by
    intro w hw a' U hW
    have hw' : w ∈ WA := by
      rcases List.mem_cons.mp hw with rfl | h
      · exact hcode
      · exact h
    exact word_at hW (Wa_good hw').2 (S.2.2.2.2 w hw')
  have hK : Back l R p e below s args y 3 8 (PreOf R mc ms Pc) (PostOf Qc mc ms free) := va_backW (bytes := bytes) (maxL := maxL) (ret := ret) (hh := hh) hM hp.1 hR.1 hR.2.1 hR.2.2.1 hR.2.2.2 hws List.mem_cons_self (fun a' U hW => word_at hW (Wa_good hini).2 (S.2.2.2.2 _ hini))
  obtain ⟨hx, hb, hml, ho, hts⟩ := S
  intro T hT X
  obtain ⟨mk, methM, cM, hnamed, hmethM, -, -, -, -, -, -, hsigM⟩ := Cond.codeWith_spec (hts _ hcode)
  have hstatic : methM.isStatic = true := Cond.static_spec hnamed hmethM (hts _ hss)
  obtain ⟨kP, hkP, -⟩ := className_of_methodNamed hnamed
  have hinitP : kP.init = .initialized := Cond.initialized_spec (findClass_of_methodNamed hnamed) hkP (hts _ hini)
  have hlen : As.length = methM.sig.parameters.length := by
    have h2 := hd.2.2
    rw [hsigM] at h2
    exact hn.trans (Option.some.inj h2).symm
  obtain ⟨vm₁, X₁, hstep₁⟩ := X.invokestatic hx ho (hts _ hl) hnamed hmethM hstatic hkP hinitP ⟨hd.1, hd.2.1⟩ (g := F0 m pc ls st0) rfl (argsL := As) (rest := rest) hlen hst (by rw [hb]; exact hdg)
  obtain ⟨v, ⟨U', l2, c2, s2⟩, X', ⟨g', mk', t, L, e1, e2, hq, h1, hL, h2, h3⟩, hsteps⟩ := hK m meth c ⟨T.setVm vm₁, locs, cells, slots⟩ { (F0 m pc ls st0) with stack := rest } (.invokestatic idx) mk As.toArray X₁ rfl (hsz.trans hml.symm) (by rw [hb]; exact hdg) (lv_room hrm) (X₁.named hnamed) ⟨hf.1, hf.2, hp.2 (T.setVm vm₁) hT X₁.warmed⟩
  dsimp only [Pt.U, Pt.locs, Pt.cells, Pt.slots] at X' e1 e2 h1 h2 h3 hsteps
  subst h1; subst h2; subst h3
  exact ⟨v, (T.setVm vm₁).calling g' mk' As.toArray, t, U', L, hT, X', hL, e1, e2, hq, fun target h => hstep₁ _ fun acts => by rw [doInvoke_state]; exact hsteps.trans h⟩
end LAW
