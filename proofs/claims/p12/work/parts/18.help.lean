/-! The law's helpers: a call of the class between a try and its catches; the answer goes into an array of one place. -/
theorem gapp {w v : va_W} {k : Nat} {q : Nat × va_E} (h : w[k]? = some q) : (w ++ v)[k]? = some q := by
  rw [List.getElem?_append_left (List.getElem?_eq_some_iff.mp h).1]; exact h
theorem glast (w : va_W) (x : Nat × va_E) : (w ++ [x])[w.length]? = some x := by simp
theorem glset (w : va_W) (x z : Nat × va_E) : (w ++ [x]).set w.length z = w ++ [z] := by simp
theorem vaP_left {D : va_G} {cl : List vw_C} {w v : va_W} {H : Heap} (h : va_P D cl (w ++ v) H) : va_P D cl w H := fun k q hk => h k q (gapp hk)
theorem vaP_last {D : va_G} {cl : List vw_C} {w : va_W} {x : Nat × va_E} {H : Heap} (h : va_P D cl (w ++ [x]) H) : va_P D cl [x] H := by
  intro k q hk
  cases k with
  | zero => cases hk; exact h _ _ (glast w x)
  | succ k => cases hk
def PreH (D : va_G) (ce : Mem → va_W) (cA cL : ClassId) (ty : FieldType) (tb : Nat → Nat) (av : List Value) (M : Mem) (ow : Nat × va_E) (sz : Nat) : Array Value → State → Prop :=
  va_Pc av (fun U => U.heap.size = sz ∧ va_P D vcl (ce M ++ [ow]) U.heap ∧ va_K D vcl [(cA, .int)] U ∧ va_K D vcl [(cL, ty)] U ∧ va_D (fun _ => True) (ce M ++ [ow]) ∧ Sx tb (va_A (ce M ++ [ow]) sz) U U.heap ∧ Tx (va_A (ce M ++ [ow]) sz) U U.heap)
def PostH (D : va_G) (ce : Mem → va_W) (A : Nat → Prop) (o : Nat) (Rh : Int32 → Mem → va_E → Prop) : Array Value → State → Outcome → State → Prop := fun _ st oc t =>
  ∃ (k : Int32) (M' : Mem) (oe : va_E), oc = .returned (some (.int k)) ∧ Rh k M' oe ∧ va_P D vcl (ce M' ++ [(o, oe)]) t.heap ∧ va_F A st t
def Hp (l : Launch) (y : MethodName) (ws : List Cond) (rm : Room) (D : va_G) (ce : Mem → va_W) (cA cL : ClassId) (ty : FieldType) (tb : Nat → Nat) (av : List Value) (M : Mem) (ow : Nat × va_E) (Rh : Int32 → Mem → va_E → Prop) : Prop :=
  ∀ sz, Met l y ws rm (PreH D ce cA cL ty tb av M ow sz) (PostH D ce (va_A (ce M ++ [ow]) sz) ow.1 Rh) 1 6 (va_A (ce M ++ [ow]) sz)
theorem PreH_blind {D : va_G} {ce : Mem → va_W} {cA cL : ClassId} {ty : FieldType} {tb : Nat → Nat} {av : List Value} {M : Mem} {ow : Nat × va_E} {sz : Nat} : FrameBlind (PreH D ce cA cL ty tb av M ow sz) := by
  intro a U g mk q
  obtain ⟨q0, q1, qP, qK, qL, qD, qZ, qT⟩ := q
  exact ⟨q0, q1, qP, va_K.moved (u := U) (U := U.calling g mk a) (Vm.Alike.refl U.vm) qK, va_K.moved (u := U) (U := U.calling g mk a) (Vm.Alike.refl U.vm) qL, qD, Sx.moved (u := U) (U := U.calling g mk a) (Vm.Alike.refl U.vm) qZ, Tx.same (u := U) (U := U.calling g mk a) rfl qT⟩
/-- what stays through a helper -/
def Hx (p : Program) (m : MethodId) (c : Code) (cc : ByteArray) (nL : Nat) (s : State) (args : Array Value) (D : va_G) (ce : Mem → va_W) (cA cL : ClassId) (ty : FieldType) (tb : Nat → Nat) (A : Nat → Prop) (o : Nat) : Prop :=
  Cx p m c cc nL s args "TileConsoleLaw" D ce cA tb A ∧ Tx A s s.heap ∧ va_K D vcl [(cL, ty)] s ∧ A o ∧ ∀ (M : Mem) (k : Nat) (q : Nat × va_E), (ce M)[k]? = some q → q.1 ≠ o
theorem Hp.of {l : Launch} {y : MethodName} {ws : List Cond} {rm : Room} {D : va_G} {ce : Mem → va_W} {cA cL : ClassId} {ty : FieldType} {tb : Nat → Nat} {av : List Value} {M : Mem} {ow : Nat × va_E} {Rh : Int32 → Mem → va_E → Prop} {cc : ByteArray} {maxL : Nat} {hh : List (Nat × Nat × Nat × Nat)}
    (hfix : AdFix ce) (hy : plainName y.cls = true) (ho : y.cls = "TileConsoleLaw") (hw : ws = Cond.codeWith y cc maxL (some .int) hh :: WA) (hlen : (lg_sl av).length ≤ maxL)
    (body : ∀ (p : Program) (e : Env) (s : State) (m : MethodId) (args : Array Value) (below : List Frame) (meth : Method) (c : Code) (A : Nat → Prop) (QQ : State → Prop) (ls : Array Slot) (H : Heap) (locs : List Loc), QQ = MQ below (PostH D ce A ow.1 Rh) args s 1 6 A → Hx p m c cc maxL s args D ce cA cL ty tb A ow.1 → c.exceptionTable.toList.map (fun h => (h.startPc, h.endPc, h.handlerPc, h.catchType)) = hh → meth.sig.returnType = some .int → meth.locks = false → Wd D ce A s H locs M → va_P D vcl [ow] H → lv_has ls maxL (lv_args 0 av) → W p l e rm s m args below meth c H locs 0 0 QQ (F0 m 0 ls [])) : Hp l y ws rm D ce cA cL ty tb av M ow Rh := by
  intro sz
  refine va_MetW (cc := cc) (maxL := maxL) (ret := some .int) (hh := hh) hy hw ?_
  intro p e s m args below meth c s₁ B hml hv
  obtain ⟨rfl, hsz, hP, hK, hKL, hD0, hZ, hT⟩ := hv
  subst hsz
  have hts : ∀ w ∈ WA, w.before av.toArray s = true := fun w h => atoms_spec (ws := ws) B.pre w (by rw [hw]; exact List.mem_cons_of_mem _ h)
  have hl := lv_entry av (n := maxL) hlen
  have hDs := hD0.self (sz := s.heap.size)
  have hDl : va_D (va_A (ce M ++ [ow]) s.heap.size) (ce M) := ⟨fun i j p q hi hj => hDs.1 i j p q (gapp hi) (gapp hj), fun k q hk => hDs.2 k q (gapp hk)⟩
  have hD : ∀ M', va_D (va_A (ce M ++ [ow]) s.heap.size) (ce M') := fun M' => va_D_fst hDl (hfix M M')
  have hap : ∀ (M' : Mem) (k : Nat) (q : Nat × va_E), (ce M')[k]? = some q → q.1 ≠ ow.1 := by
    intro M' k q hk he
    have h1 : ((ce M').map Prod.fst)[k]? = some q.1 := by rw [List.getElem?_map, hk]; rfl
    rw [← hfix M M', List.getElem?_map] at h1
    cases hi : (ce M)[k]? with
    | none => rw [hi] at h1; cases h1
    | some q0 =>
      rw [hi] at h1
      have h2 : q0.1 = q.1 := Option.some.inj h1
      have h3 := hDs.1 k (ce M).length q0 ow (gapp hi) (glast _ _) (h2.trans he)
      have h4 := (List.getElem?_eq_some_iff.mp hi).1
      omega
  have hown : s.vm.findClass "TileConsoleLaw" = some m.cls := by rw [← ho]; exact findClass_of_methodNamed B.named
  obtain ⟨m9, meth9, c9, g1, g2, g3, -, -, g6, -⟩ := Cond.codeWith_spec (atoms_spec (ws := ws) B.pre _ (by rw [hw]; exact List.mem_cons_self))
  have X := Stand.of_body B
  cases B.named.symm.trans g1
  cases X.method.symm.trans g2
  cases X.code.symm.trans g3
  rw [lg_entry_eq]
  exact body p e s m _ below meth c (va_A (ce M ++ [ow]) s.heap.size) _ _ _ _ rfl ⟨⟨⟨B.exec, B.bytes, hml, hown, hts⟩, hK, hD, fun q h => Or.inr h, hZ⟩, hT, hKL, Or.inl ⟨_, _, glast _ _⟩, hap⟩ g6 B.returns B.notSynchronized ⟨vaP_left hP, va_S.rf⟩ (vaP_last hP) hl
section HELP
variable {p : Program} {l : Launch} {e : Env} {R : Room} {s : State} {m : MethodId} {args : Array Value} {below : List Frame} {meth : Method} {c : Code} {H : Heap} {locs : List Loc} {QQ : State → Prop}
variable {cc : ByteArray} {pc nL : Nat} {ls : Array Slot} {rest st0 As : List Value} {D : va_G} {ce : Mem → va_W} {cA cL : ClassId} {ty : FieldType} {tb : Nat → Nat} {A : Nat → Prop} {o : Nat} {oe : va_E} {M : Mem} {Rh : Int32 → Mem → va_E → Prop}
variable {y : MethodName} {ws : List Cond} {rm : Room} {b ci idx n maxL N : Nat} {fs : List Value} {Cn : String} {Tn : u_T} {bytes : ByteArray} {ret : Option FieldType}
theorem Hx.kept {M' : Mem} {H' : Heap} {locs' : List Loc} (hX : Hx p m c cc nL s args D ce cA cL ty tb A o) (hO : va_P D vcl [(o, oe)] H) (hw' : Wd D ce A s H' locs' M') (hk : ∀ q : Nat, q < H.size → ¬ va_A (ce M) H.size q → H'[q]? = H[q]?) :
    va_P D vcl (ce M' ++ [(o, oe)]) H' ∧ va_D A (ce M' ++ [(o, oe)]) := by
  have hlt : o < H.size := (hO 0 _ rfl).lt
  have hO' : va_P D vcl [(o, oe)] H' := hO.kept (fun k q hkq => by
    cases k with
    | zero =>
      cases hkq
      refine hk o hlt ?_
      rintro (⟨k, e, h⟩ | h)
      · exact hX.2.2.2.2 M k _ h rfl
      · omega
    | succ k => cases hkq)
  refine ⟨hw'.1.app hO', va_D.app (hX.1.2.2.1 M') ⟨fun i j p q hi hj _ => ?_, fun k q hkq => ?_⟩ (fun i j p q hi hj => ?_)⟩
  · cases i with
    | zero => cases j with
      | zero => rfl
      | succ j => cases hj
    | succ i => cases hi
  · cases k with
    | zero => cases hkq; exact hX.2.2.2.1
    | succ k => cases hkq
  · cases j with
    | zero => cases hj; exact hX.2.2.2.2 M' i p hi
    | succ j => cases hj
theorem hf_l {j tg : Nat} {off : Int} {f : Nat → Int64} {Qx : Int32 → Mem → Prop} (hX : Hx p m c cc nL s args D ce cA cL .long tb A o) (hQQ : QQ = MQ below (PostH D ce A o Rh) args s 1 6 A) (hr : meth.sig.returnType = some .int) (hlk : meth.locks = false) (hw : Wd D ce A s H locs M) (hO : va_P D vcl [(o, .inl (cL, 1, .inr (.inl f)))] H) (hM : Ct l y ws rm D ce cA tb (.ref b :: As) M (QI Qx))
    (hl : Cond.methodLink "TileConsoleLaw" idx y ∈ WA) (hm : Mw y Cn bytes maxL ret n) (hws : ws = Cond.code y bytes maxL ret :: WA) (hR : rm.cells = 0 ∧ rm.slots = 0 ∧ rm.frames + 1 ≤ R.frames ∧ 8 + (maxL + 11) + rm.locals ≤ R.locals) (hj : (ce M)[j]? = some (b, .inr (ci, fs))) (hcl : vcl[ci]? = some (Cn, Tn, N)) (hn : As.length = n) (hsz : ls.size = nL) (hst : st0 = As.reverse ++ .ref b :: [.int 0, .ref o])
    (hdg : decode cc pc = .ok (.invokevirtual idx, 3)) (d1 : decode cc (pc + 3) = .ok (.i2l, 1)) (d2 : decode cc (pc + 3 + 1) = .ok (.lastore, 1)) (d3 : decode cc (pc + 3 + 1 + 1) = .ok (.goto off, 3)) (ht : ((pc + 3 + 1 + 1 : Nat) : Int) + off = (tg : Int)) (d4 : decode cc tg = .ok (.iconst 0, 1)) (d5 : decode cc (tg + 1) = .ok (.ireturn, 1))
    (hq : ∀ x M', Qx x M' → Rh 0 M' (.inl (cL, 1, .inr (.inl (vp_updL f 0 x.toInt64))))) : W p l e R s m args below meth c H locs 0 0 QQ (F0 m pc ls st0) := by
  have hx := hX.1.1.1
  have hb := hX.1.1.2.1
  refine hc_ret (rest := [.int 0, .ref o]) hX.1 hw hM hl hm hws hR hj hcl hn hsz hst (Nat.le_of_ble_eq_true rfl) hdg fun r M' H' locs' hq' hw' hk => ?_
  obtain ⟨x, rfl, hq'⟩ := hq'
  obtain ⟨hPP, hDD⟩ := hX.kept hO hw' hk
  refine lv_i2l hx hb d1 rfl ?_
  refine va_last hx hb hX.2.2.1 hPP hDD hw'.2 (ce M').length 0 (glast _ _) rfl (vin_lit rfl) d2 fun H1 locs1 hP1 hD1 hS1 => ?_
  rw [glset] at hP1
  refine lv_goto (tgt := tg) hx hb d3 ht ?_
  refine lv_iconst hx hb d4 rfl ?_
  refine W.widen (k := 1) (n := 6) (by omega) (by omega) ?_
  subst hQQ
  exact W.iret hx hb hr (fun t ht hW => ⟨0, M', _, rfl, hq x M' hq', by rw [ht]; exact hP1, hS1.F ht⟩) hS1.2.2 d5
theorem hf_d {j tg : Nat} {off : Int} {f : Nat → UInt64} {Qx : UInt64 → Mem → Prop} (hX : Hx p m c cc nL s args D ce cA cL .double tb A o) (hQQ : QQ = MQ below (PostH D ce A o Rh) args s 1 6 A) (hr : meth.sig.returnType = some .int) (hlk : meth.locks = false) (hw : Wd D ce A s H locs M) (hO : va_P D vcl [(o, .inl (cL, 1, .inr (.inr (.inr (.inl f)))))] H) (hM : Ct l y ws rm D ce cA tb (.ref b :: As) M (QD Qx))
    (hl : Cond.methodLink "TileConsoleLaw" idx y ∈ WA) (hm : Mw y Cn bytes maxL ret n) (hws : ws = Cond.code y bytes maxL ret :: WA) (hR : rm.cells = 0 ∧ rm.slots = 0 ∧ rm.frames + 1 ≤ R.frames ∧ 8 + (maxL + 11) + rm.locals ≤ R.locals) (hj : (ce M)[j]? = some (b, .inr (ci, fs))) (hcl : vcl[ci]? = some (Cn, Tn, N)) (hn : As.length = n) (hsz : ls.size = nL) (hst : st0 = As.reverse ++ .ref b :: [.int 0, .ref o])
    (hdg : decode cc pc = .ok (.invokevirtual idx, 3)) (d2 : decode cc (pc + 3) = .ok (.dastore, 1)) (d3 : decode cc (pc + 3 + 1) = .ok (.goto off, 3)) (ht : ((pc + 3 + 1 : Nat) : Int) + off = (tg : Int)) (d4 : decode cc tg = .ok (.iconst 0, 1)) (d5 : decode cc (tg + 1) = .ok (.ireturn, 1))
    (hq : ∀ x M', Qx x M' → Rh 0 M' (.inl (cL, 1, .inr (.inr (.inr (.inl (vf_upd f 0 x))))))) : W p l e R s m args below meth c H locs 0 0 QQ (F0 m pc ls st0) := by
  have hx := hX.1.1.1
  have hb := hX.1.1.2.1
  refine hc_ret (rest := [.int 0, .ref o]) hX.1 hw hM hl hm hws hR hj hcl hn hsz hst (Nat.le_of_ble_eq_true rfl) hdg fun r M' H' locs' hq' hw' hk => ?_
  obtain ⟨x, rfl, hq'⟩ := hq'
  obtain ⟨hPP, hDD⟩ := hX.kept hO hw' hk
  refine va_dast hx hb hX.2.2.1 hPP hDD hw'.2 (ce M').length 0 (glast _ _) rfl (vin_lit rfl) d2 fun H1 locs1 hP1 hD1 hS1 => ?_
  rw [glset] at hP1
  refine lv_goto (tgt := tg) hx hb d3 ht ?_
  refine lv_iconst hx hb d4 rfl ?_
  refine W.widen (k := 1) (n := 6) (by omega) (by omega) ?_
  subst hQQ
  exact W.iret hx hb hr (fun t ht hW => ⟨0, M', _, rfl, hq x M' hq', by rw [ht]; exact hP1, hS1.F ht⟩) hS1.2.2 d5
/-- the catch: the exception is put away, a number is the answer -/
theorem hf_e {lv : List (Nat × Value)} {i : Fin 4} {k : Int} {v : Int32} {x : Nat} {M' : Mem} {H' : Heap} {locs' : List Loc} (hX : Hx p m c cc nL s args D ce cA cL ty tb A o) (hQQ : QQ = MQ below (PostH D ce A o Rh) args s 1 6 A) (hr : meth.sig.returnType = some .int) (hlk : meth.locks = false) (hPP : va_P D vcl (ce M' ++ [(o, oe)]) H') (hS : va_S A s.heap H' locs')
    (hlv : lv_has ls nL lv) (hi : (i : Nat) < nL) (hv : Int32.ofInt k = v) (d0 : decode cc pc = .ok (.astore_n i, 1)) (d1 : decode cc (pc + 1) = .ok (.iconst k, 1)) (d2 : decode cc (pc + 1 + 1) = .ok (.ireturn, 1)) (hq : Rh v M' oe) : W p l e R s m args below meth c H' locs' 1 6 QQ (F0 m pc ls [.ref x]) := by
  have hx := hX.1.1.1
  have hb := hX.1.1.2.1
  refine lv_astore_n hx hb d0 rfl hlv hi rfl fun ls' hl' => ?_
  refine lv_iconst hx hb d1 hv ?_
  subst hQQ
  exact W.iret hx hb hr (fun t ht hW => ⟨v, M', oe, rfl, hq, by rw [ht]; exact hPP, hS.F ht⟩) hS.2.2 d2
theorem hf_e2 {lv : List (Nat × Value)} {i : Nat} {k : Int} {v : Int32} {x : Nat} {M' : Mem} {H' : Heap} {locs' : List Loc} (hX : Hx p m c cc nL s args D ce cA cL ty tb A o) (hQQ : QQ = MQ below (PostH D ce A o Rh) args s 1 6 A) (hr : meth.sig.returnType = some .int) (hlk : meth.locks = false) (hPP : va_P D vcl (ce M' ++ [(o, oe)]) H') (hS : va_S A s.heap H' locs')
    (hlv : lv_has ls nL lv) (hi : i < nL) (hv : Int32.ofInt k = v) (d0 : decode cc pc = .ok (.astore i, 2)) (d1 : decode cc (pc + 2) = .ok (.iconst k, 1)) (d2 : decode cc (pc + 2 + 1) = .ok (.ireturn, 1)) (hq : Rh v M' oe) : W p l e R s m args below meth c H' locs' 1 6 QQ (F0 m pc ls [.ref x]) := by
  have hx := hX.1.1.1
  have hb := hX.1.1.2.1
  refine lv_astore hx hb d0 hlv hi rfl fun ls' hl' => ?_
  refine lv_iconst hx hb d1 hv ?_
  subst hQQ
  exact W.iret hx hb hr (fun t ht hW => ⟨v, M', oe, rfl, hq, by rw [ht]; exact hPP, hS.F ht⟩) hS.2.2 d2
end HELP
