/-! The law's beginning: the two constructors, the two arrays. -/
section LAWP
variable {p : Program} {l : Launch} {e : Env} {R : Room} {s : State} {m : MethodId} {args : Array Value} {below : List Frame} {meth : Method} {c : Code} {H : Heap} {locs : List Loc} {QQ : State → Prop} {cells slots mc ms : Nat}
variable {cc : ByteArray} {pc nL : Nat} {ls : Array Slot} {rest st0 As : List Value} {D : va_G} {cA : ClassId} {tb : Nat → Nat} {A : Nat → Prop} {own : String} {w ws0 : va_W} {b : Nat} {e0 : va_E} {fin : (Nat → Nat) → va_W}
/-- behind a constructor's call: the object, the last cell, has become a world -/
theorem cl_inj {a : Array Value} {ce : (Nat → Nat) → Mem → va_W} {Qm : Mem → Prop} (hr : va_Run p l e R s m args below meth c H locs cells slots mc ms (F0 m pc ls st0) rest (PostJ D (va_A [(b, e0)] H.size) b ce Qm a) (va_A [(b, e0)] H.size)) (hP : va_P D vcl (w ++ [(b, e0)]) H) (hD : va_D A (w ++ [(b, e0)])) (hS : va_S A s.heap H locs) (hA : ∀ q, s.heap.size ≤ q → A q)
    (kk : ∀ (ad : Nat → Nat) (M' : Mem) (H1 : Heap) (locs1 : List Loc), ad 0 = b → Qm M' → va_P D vcl (w ++ ce ad M') H1 → va_D A (w ++ ce ad M') → va_S A s.heap H1 locs1 → W p l e R s m args below meth c H1 locs1 (cells + mc) (slots + ms) QQ (F0 m (pc + 3) ls rest)) : W p l e R s m args below meth c H locs cells slots QQ (F0 m pc ls st0) := by
  intro T hT X
  obtain ⟨v, st₀, t, T', L, h0, X', hL, e1, e2, ⟨ad, M', hv, hb0, hQm, hP', hD', hz, hk⟩, st⟩ := hr T hT X
  cases hv
  rw [h0] at hz hk
  have hsub : ∀ z, va_A [(b, e0)] H.size z → A z := by
    intro z hz
    rcases hz with ⟨k, e, h⟩ | h
    · cases k with
      | zero => cases h; exact hD.2 _ _ (glast w _)
      | succ k => cases h
    · exact hA z (Nat.le_trans hS.1 h)
  have hout : ∀ (k : Nat) (z : Nat × va_E), w[k]? = some z → z.1 < H.size ∧ ¬ va_A [(b, e0)] H.size z.1 := by
    intro k z hkz
    have hlt := (hP k z (gapp hkz)).lt
    refine ⟨hlt, ?_⟩
    rintro (⟨k2, e2, h⟩ | h)
    · cases k2 with
      | zero =>
        have hbz : b = z.1 := by cases h; rfl
        have h3 := hD.1 k w.length z (b, e0) (gapp hkz) (glast w _) hbz.symm
        have h4 := (List.getElem?_eq_some_iff.mp hkz).1
        omega
      | succ k2 => cases h
    · omega
  have hPw : va_P D vcl w T'.heap := (vaP_left hP).kept (fun k z hkz => by rw [e1]; exact hk z.1 (hout k z hkz).1 (hout k z hkz).2)
  have hDw : va_D A w := ⟨fun i j x y hi hj => hD.1 i j x y (gapp hi) (gapp hj), fun k z hkz => hD.2 k z (gapp hkz)⟩
  obtain ⟨t2, a1, b1⟩ := kk ad M' T'.heap (locs ++ L) hb0 hQm (hPw.app (by rw [e1]; exact hP')) (va_D.app hDw (hD'.weaken (fun _ z _ h => hsub _ h)) (fun i j x z hi hj he => (hout i x hi).2 (by rw [he]; exact hD'.2 j z hj)))
    ⟨Nat.le_trans hS.1 (by rw [e1]; exact hz), fun z h1 h2 => by rw [e1, hk z (Nat.lt_of_lt_of_le h1 hS.1) (fun y => h2 (hsub z y))]; exact hS.2.1 z h1 h2, fun z hz => by
      rcases List.mem_append.mp hz with h | h
      · exact hS.2.2 z h
      · exact hsub _ (hL z h)⟩ T' rfl X'
  exact ⟨t2, st t2 a1, b1⟩
theorem cl_injL {y : MethodName} {ws : List Cond} {rm : Room} {idx n maxL : Nat} {bytes : ByteArray} {ce : (Nat → Nat) → Mem → va_W} {Qm : Mem → Prop} (S : CallFix p m c cc nL s args WA own) (hK : va_K D vcl [(cA, .int)] s) (hSx : Sx tb A s s.heap) (hTn : Tn s) (hM : Inj l y ws rm D cA tb (.ref b :: As) b [(b, e0)] ce Qm mc ms) (hl : Cond.methodLink own idx y ∈ WA) (hi : Cond.instanceMethod y ∈ WA) (hini : Cond.initialized y.cls ∈ WA) (hcode : Cond.code y bytes maxL none ∈ WA) (hws : ws = Cond.code y bytes maxL none :: WA) (hy1 : y.name = "<init>")
    (hd : y.cls ≠ "java/lang/invoke/MethodHandle" ∧ y.cls ≠ "java/lang/invoke/VarHandle" ∧ (parseMethodDescriptor y.desc).map (fun d => d.parameters.length) = some n) (hR : rm.cells = mc ∧ rm.slots = ms ∧ rm.frames + 1 ≤ R.frames ∧ 8 + (maxL + 11) + rm.locals ≤ R.locals) (hn : As.length = n) (hsz : ls.size = nL) (hst : st0 = As.reverse ++ .ref b :: rest) (hrm : (rest.map fun v => v.category).sum ≤ 8) (hdg : decode cc pc = .ok (.invokespecial idx, 3)) (hf : cells + mc ≤ R.cells ∧ slots + ms ≤ R.slots)
    (hP : va_P D vcl (w ++ [(b, e0)]) H) (hD : va_D A (w ++ [(b, e0)])) (hS : va_S A s.heap H locs) (hA : ∀ q, s.heap.size ≤ q → A q)
    (kk : ∀ (ad : Nat → Nat) (M' : Mem) (H1 : Heap) (locs1 : List Loc), ad 0 = b → Qm M' → va_P D vcl (w ++ ce ad M') H1 → va_D A (w ++ ce ad M') → va_S A s.heap H1 locs1 → W p l e R s m args below meth c H1 locs1 (cells + mc) (slots + ms) QQ (F0 m (pc + 3) ls rest)) : W p l e R s m args below meth c H locs cells slots QQ (F0 m pc ls st0) := by
  subst hws
  have hsub : ∀ z, va_A [(b, e0)] H.size z → A z := by
    intro z hz
    rcases hz with ⟨k, e, h⟩ | h
    · cases k with
      | zero => cases h; exact hD.2 _ _ (glast w _)
      | succ k => cases h
    · exact hA z (Nat.le_trans hS.1 h)
  exact cl_inj (va_runI (As := As) (rest := rest) S (hM H.size) (cwI n S.2.2.2.2 (gd_I hcode) rfl hR.1 hR.2.1 (S.2.2.2.2 _ hini) (S.2.2.2.2 _ hl) (S.2.2.2.2 _ hi) hy1 hd hR.2.2) ⟨PreJ_blind, fun U hU hW => ⟨rfl, by rw [hU], by rw [hU]; exact vaP_last hP, va_K.moved hW.alike hK, (vaD_last hD).weaken (fun _ _ _ _ => trivial), by rw [hU]; exact (Sx.moved hW.alike (hSx.kept hS.2.1)).narrow hsub, hTn.warm hW⟩⟩ rfl hn hsz hst (lv_room hrm) hdg hf) hP hD hS hA kk
theorem nw_l (S : CallFix p m c cc nL s args WA own) (hia : Cond.arrayClass .long ∈ WA) (hK : va_K D vcl [(cA, .long)] s) (hP : va_P D vcl w H) (hD : va_D A w) (hS : va_S A s.heap H locs) (hA : ∀ q, s.heap.size ≤ q → A q)
    {n : Int32} {N : Nat} (hn : ¬ n < 0) (hN : n.toNatClampNeg = N) (hb4 : N * componentBytes .long ≤ 536870912) (hcells : cells + 1 ≤ R.cells) (hslots : slots + N ≤ R.slots) (hdg : decode cc pc = .ok (.newarray .long, 2))
    (kk : ∀ (q : Nat) (H1 : Heap), va_P D vcl (w ++ [(q, .inl (cA, N, .inr (.inl (fun _ => 0))))]) H1 → va_D A (w ++ [(q, .inl (cA, N, .inr (.inl (fun _ => 0))))]) → va_S A s.heap H1 locs → W p l e R s m args below meth c H1 locs (cells + 1) (slots + N) QQ (F0 m (pc + 2) ls (.ref q :: rest))) :
    W p l e R s m args below meth c H locs cells slots QQ (F0 m pc ls (.int n :: rest)) := by
  refine va_newa (atype := .long) (ty := .long) (a0 := (N, .inr (.inl (fun _ => 0)))) S.1 S.2.1 (S.2.2.2.2 _ hia) rfl hK hP hD hS hA (fun _ => rfl) hn hN hb4 hcells hslots hdg fun q cA' H1 hK' hP' hD' hS' => ?_
  have h1 : s.vm.findClass ("[" ++ (FieldType.long).toString) = some cA := (hK.2 0 _ rfl).2
  have h2 : s.vm.findClass ("[" ++ (FieldType.long).toString) = some cA' := (hK'.2 1 _ rfl).2
  cases h1.symm.trans h2
  exact kk q H1 hP' hD' hS'
theorem nw_d (S : CallFix p m c cc nL s args WA own) (hia : Cond.arrayClass .double ∈ WA) (hK : va_K D vcl [(cA, .double)] s) (hP : va_P D vcl w H) (hD : va_D A w) (hS : va_S A s.heap H locs) (hA : ∀ q, s.heap.size ≤ q → A q)
    {n : Int32} {N : Nat} (hn : ¬ n < 0) (hN : n.toNatClampNeg = N) (hb4 : N * componentBytes .double ≤ 536870912) (hcells : cells + 1 ≤ R.cells) (hslots : slots + N ≤ R.slots) (hdg : decode cc pc = .ok (.newarray .double, 2))
    (kk : ∀ (q : Nat) (H1 : Heap), va_P D vcl (w ++ [(q, .inl (cA, N, .inr (.inr (.inr (.inl (fun _ => 0))))))]) H1 → va_D A (w ++ [(q, .inl (cA, N, .inr (.inr (.inr (.inl (fun _ => 0))))))]) → va_S A s.heap H1 locs → W p l e R s m args below meth c H1 locs (cells + 1) (slots + N) QQ (F0 m (pc + 2) ls (.ref q :: rest))) :
    W p l e R s m args below meth c H locs cells slots QQ (F0 m pc ls (.int n :: rest)) := by
  refine va_newa (atype := .double) (ty := .double) (a0 := (N, .inr (.inr (.inr (.inl (fun _ => 0)))))) S.1 S.2.1 (S.2.2.2.2 _ hia) rfl hK hP hD hS hA (fun _ => rfl) hn hN hb4 hcells hslots hdg fun q cA' H1 hK' hP' hD' hS' => ?_
  have h1 : s.vm.findClass ("[" ++ (FieldType.double).toString) = some cA := (hK.2 0 _ rfl).2
  have h2 : s.vm.findClass ("[" ++ (FieldType.double).toString) = some cA' := (hK'.2 1 _ rfl).2
  cases h1.symm.trans h2
  exact kk q H1 hP' hD' hS'
end LAWP
