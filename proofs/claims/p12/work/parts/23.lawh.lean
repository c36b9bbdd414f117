/-! The law calls a helper. -/
section LAWH
variable {p : Program} {l : Launch} {e : Env} {R : Room} {s : State} {m : MethodId} {args : Array Value} {below : List Frame} {meth : Method} {c : Code} {H : Heap} {locs : List Loc} {QQ : State → Prop} {cells slots : Nat}
variable {cc : ByteArray} {pc nL : Nat} {ls : Array Slot} {rest st0 As : List Value} {D : va_G} {ad ad2 : Nat → Nat} {cA cL cD : ClassId} {tb : Nat → Nat} {o od : Nat} {M N : Mem} {x z : va_E}
variable {y : MethodName} {ws : List Cond} {rm : Room} {idx n maxL : Nat} {bytes : ByteArray} {ret : Option FieldType}
theorem lr_hl {Rh : Int32 → Mem → va_E → Prop} {hh : List (Nat × Nat × Nat × Nat)} (hX : Lx p m c cc nL s args D ad ad2 cA cL cD tb o od) (hw : Lw D ad ad2 cA o od s H locs M N x z) (hM : Hp l y ws rm D (ceC ad cA) cA cL .long tb As M (o, x) Rh) (hl : Cond.methodLink "TileConsoleLaw" idx y ∈ WA) (hss : Cond.static y ∈ WA) (hini : Cond.initialized y.cls ∈ WA) (hcode : Cond.codeWith y bytes maxL ret hh ∈ WA) (hws : ws = Cond.codeWith y bytes maxL ret hh :: WA)
    (hd : y.cls ≠ "java/lang/invoke/MethodHandle" ∧ y.cls ≠ "java/lang/invoke/VarHandle" ∧ (parseMethodDescriptor y.desc).map (fun d => d.parameters.length) = some n) (hR : rm.cells = 1 ∧ rm.slots = 6 ∧ rm.frames + 1 ≤ R.frames ∧ 8 + (maxL + 11) + rm.locals ≤ R.locals) (hn : As.length = n) (hsz : ls.size = nL) (hst : st0 = As.reverse ++ rest) (hrm : (rest.map fun v => v.category).sum ≤ 8) (hdg : decode cc pc = .ok (.invokestatic idx, 3)) (hf : cells + 1 ≤ R.cells ∧ slots + 6 ≤ R.slots)
    (kk : ∀ (k : Int32) (M' : Mem) (oe : va_E) (H' : Heap) (locs' : List Loc), Rh k M' oe → Lw D ad ad2 cA o od s H' locs' M' N oe z → W p l e R s m args below meth c H' locs' (cells + 1) (slots + 6) QQ (F0 m (pc + 3) ls (.int k :: rest))) : W p l e R s m args below meth c H locs cells slots QQ (F0 m pc ls st0) := by
  have hD := hX.2.2.2.2.2.2 M N x z
  have hPi := vaP_iff.mp hw.1
  have mC : ∀ q ∈ ceC ad cA M, q ∈ Lc ad ad2 cA o od M N x z := fun q h => List.mem_append_left _ h
  have mR : ∀ q ∈ ceR ad2 cA N, q ∈ Lc ad ad2 cA o od M N x z := fun q h => List.mem_append_right _ (List.mem_append_left _ h)
  have mO : (o, x) ∈ Lc ad ad2 cA o od M N x z := List.mem_append_right _ (List.mem_append_right _ List.mem_cons_self)
  have mE : (od, z) ∈ Lc ad ad2 cA o od M N x z := List.mem_append_right _ (List.mem_append_right _ (List.mem_cons_of_mem _ List.mem_cons_self))
  have hD3 := vaD_right (vaD_right hD)
  have hD1 : va_D (Al s) [(o, x)] := vaD_left hD3
  have hap1 : ∀ q ∈ ceC ad cA M, q.1 ≠ o := fun q h => vaD_apart hD h (List.mem_append_right _ (List.mem_append_left _ List.mem_cons_self))
  have hDc : va_D (Al s) (ceC ad cA M ++ [(o, x)]) := va_D.app (vaD_left hD) hD1 (fun i j a b hi hj he => by
    have hb := List.mem_of_getElem? hj
    rw [List.mem_singleton] at hb
    subst hb
    exact hap1 a (List.mem_of_getElem? hi) he)
  have hPc : va_P D vcl (ceC ad cA M ++ [(o, x)]) H := vaP_iff.mpr fun q hq => by
    rcases List.mem_append.mp hq with h | h
    · exact hPi q (mC q h)
    · rw [List.mem_singleton] at h
      subst h
      exact hPi _ mO
  have hsub : ∀ q, va_A (ceC ad cA M ++ [(o, x)]) H.size q → Al s q := by
    intro q h
    rcases h with ⟨k, e, h⟩ | h
    · exact hDc.2 k _ h
    · exact Nat.le_trans hw.2.1 h
  have hr := runH (e := e) (R := R) (below := below) (meth := meth) (locs := locs) (cells := cells) (slots := slots) (ls := ls) (pc := pc) (st0 := st0) (rest := rest) (As := As) hX.1 (hM H.size) hl hss hini hcode hws hd hR ⟨PreH_blind, fun U hU hW => ⟨rfl, by rw [hU], by rw [hU]; exact hPc, va_K.moved hW.alike hX.2.1, va_K.moved hW.alike hX.2.2.1, hDc.weaken (fun _ _ _ _ => trivial),
    by rw [hU]; exact (Sx.moved hW.alike (hX.2.2.2.2.1.kept hw.2.2.1)).narrow hsub, by rw [hU]; exact (Tx.warm hW (hX.2.2.2.2.2.1.kept hw.2.2.1)).narrow hsub⟩⟩ hn hsz hst hrm hdg hf
  intro T hT X
  obtain ⟨v, st₀, t, T', L, h0, X', hL, e1, e2, ⟨k, M', oe, hv, hq, hP', hz, hk⟩, st⟩ := hr T hT X
  cases hv
  rw [h0] at hz hk
  have hPn : va_P D vcl (Lc ad ad2 cA o od M' N oe z) T'.heap := vaP_iff.mpr fun q hq => by
    rw [e1]
    rcases List.mem_append.mp hq with h | h
    · exact vaP_iff.mp hP' q (List.mem_append_left _ h)
    · rcases List.mem_append.mp h with h | h
      · refine va_keep hw.1 hk (mR q h) fun b hb he => ?_
        rcases List.mem_append.mp hb with g | g
        · exact vaD_apart hD g (List.mem_append_left _ h) he
        · rw [List.mem_singleton] at g
          subst g
          exact vaD_apart (vaD_right hD) h (List.mem_append_left _ List.mem_cons_self) he.symm
      · rcases List.mem_append.mp h with h | h
        · rw [List.mem_singleton] at h
          subst h
          exact vaP_iff.mp hP' _ (List.mem_append_right _ List.mem_cons_self)
        · rw [List.mem_singleton] at h
          subst h
          refine va_keep hw.1 hk mE fun b hb he => ?_
          rcases List.mem_append.mp hb with g | g
          · exact vaD_apart hD g (List.mem_append_right _ (List.mem_append_right _ List.mem_cons_self)) he
          · rw [List.mem_singleton] at g
            subst g
            exact vaD_apart hD3 (u := [(o, x)]) List.mem_cons_self List.mem_cons_self he
  obtain ⟨t2, a1, b1⟩ := kk k M' oe T'.heap (locs ++ L) hq ⟨hPn, ⟨Nat.le_trans hw.2.1 (by rw [e1]; exact hz), fun q h1 h2 => by rw [e1, hk q (Nat.lt_of_lt_of_le h1 hw.2.1) (fun y => h2 (hsub q y))]; exact hw.2.2.1 q h1 h2, fun q hq => by
      rcases List.mem_append.mp hq with h | h
      · exact hw.2.2.2 q h
      · exact hsub _ (hL q h)⟩⟩ T' rfl X'
  exact ⟨t2, st t2 a1, b1⟩

theorem lr_hd {Rh : Int32 → Mem → va_E → Prop} {hh : List (Nat × Nat × Nat × Nat)} (hX : Lx p m c cc nL s args D ad ad2 cA cL cD tb o od) (hw : Lw D ad ad2 cA o od s H locs M N x z) (hM : Hp l y ws rm D (ceC ad cA) cA cD .double tb As M (od, z) Rh) (hl : Cond.methodLink "TileConsoleLaw" idx y ∈ WA) (hss : Cond.static y ∈ WA) (hini : Cond.initialized y.cls ∈ WA) (hcode : Cond.codeWith y bytes maxL ret hh ∈ WA) (hws : ws = Cond.codeWith y bytes maxL ret hh :: WA)
    (hd : y.cls ≠ "java/lang/invoke/MethodHandle" ∧ y.cls ≠ "java/lang/invoke/VarHandle" ∧ (parseMethodDescriptor y.desc).map (fun d => d.parameters.length) = some n) (hR : rm.cells = 1 ∧ rm.slots = 6 ∧ rm.frames + 1 ≤ R.frames ∧ 8 + (maxL + 11) + rm.locals ≤ R.locals) (hn : As.length = n) (hsz : ls.size = nL) (hst : st0 = As.reverse ++ rest) (hrm : (rest.map fun v => v.category).sum ≤ 8) (hdg : decode cc pc = .ok (.invokestatic idx, 3)) (hf : cells + 1 ≤ R.cells ∧ slots + 6 ≤ R.slots)
    (kk : ∀ (k : Int32) (M' : Mem) (oe : va_E) (H' : Heap) (locs' : List Loc), Rh k M' oe → Lw D ad ad2 cA o od s H' locs' M' N x oe → W p l e R s m args below meth c H' locs' (cells + 1) (slots + 6) QQ (F0 m (pc + 3) ls (.int k :: rest))) : W p l e R s m args below meth c H locs cells slots QQ (F0 m pc ls st0) := by
  have hD := hX.2.2.2.2.2.2 M N x z
  have hPi := vaP_iff.mp hw.1
  have mC : ∀ q ∈ ceC ad cA M, q ∈ Lc ad ad2 cA o od M N x z := fun q h => List.mem_append_left _ h
  have mR : ∀ q ∈ ceR ad2 cA N, q ∈ Lc ad ad2 cA o od M N x z := fun q h => List.mem_append_right _ (List.mem_append_left _ h)
  have mO : (o, x) ∈ Lc ad ad2 cA o od M N x z := List.mem_append_right _ (List.mem_append_right _ List.mem_cons_self)
  have mE : (od, z) ∈ Lc ad ad2 cA o od M N x z := List.mem_append_right _ (List.mem_append_right _ (List.mem_cons_of_mem _ List.mem_cons_self))
  have hD3 := vaD_right (vaD_right hD)
  have hD1 : va_D (Al s) [(od, z)] := vaD_right hD3
  have hap1 : ∀ q ∈ ceC ad cA M, q.1 ≠ od := fun q h => vaD_apart hD h (List.mem_append_right _ (List.mem_append_right _ List.mem_cons_self))
  have hDc : va_D (Al s) (ceC ad cA M ++ [(od, z)]) := va_D.app (vaD_left hD) hD1 (fun i j a b hi hj he => by
    have hb := List.mem_of_getElem? hj
    rw [List.mem_singleton] at hb
    subst hb
    exact hap1 a (List.mem_of_getElem? hi) he)
  have hPc : va_P D vcl (ceC ad cA M ++ [(od, z)]) H := vaP_iff.mpr fun q hq => by
    rcases List.mem_append.mp hq with h | h
    · exact hPi q (mC q h)
    · rw [List.mem_singleton] at h
      subst h
      exact hPi _ mE
  have hsub : ∀ q, va_A (ceC ad cA M ++ [(od, z)]) H.size q → Al s q := by
    intro q h
    rcases h with ⟨k, e, h⟩ | h
    · exact hDc.2 k _ h
    · exact Nat.le_trans hw.2.1 h
  have hr := runH (e := e) (R := R) (below := below) (meth := meth) (locs := locs) (cells := cells) (slots := slots) (ls := ls) (pc := pc) (st0 := st0) (rest := rest) (As := As) hX.1 (hM H.size) hl hss hini hcode hws hd hR ⟨PreH_blind, fun U hU hW => ⟨rfl, by rw [hU], by rw [hU]; exact hPc, va_K.moved hW.alike hX.2.1, va_K.moved hW.alike hX.2.2.2.1, hDc.weaken (fun _ _ _ _ => trivial),
    by rw [hU]; exact (Sx.moved hW.alike (hX.2.2.2.2.1.kept hw.2.2.1)).narrow hsub, by rw [hU]; exact (Tx.warm hW (hX.2.2.2.2.2.1.kept hw.2.2.1)).narrow hsub⟩⟩ hn hsz hst hrm hdg hf
  intro T hT X
  obtain ⟨v, st₀, t, T', L, h0, X', hL, e1, e2, ⟨k, M', oe, hv, hq, hP', hz, hk⟩, st⟩ := hr T hT X
  cases hv
  rw [h0] at hz hk
  have hPn : va_P D vcl (Lc ad ad2 cA o od M' N x oe) T'.heap := vaP_iff.mpr fun q hq => by
    rw [e1]
    rcases List.mem_append.mp hq with h | h
    · exact vaP_iff.mp hP' q (List.mem_append_left _ h)
    · rcases List.mem_append.mp h with h | h
      · refine va_keep hw.1 hk (mR q h) fun b hb he => ?_
        rcases List.mem_append.mp hb with g | g
        · exact vaD_apart hD g (List.mem_append_left _ h) he
        · rw [List.mem_singleton] at g
          subst g
          exact vaD_apart (vaD_right hD) h (List.mem_append_right _ List.mem_cons_self) he.symm
      · rcases List.mem_append.mp h with h | h
        · rw [List.mem_singleton] at h
          subst h
          refine va_keep hw.1 hk mO fun b hb he => ?_
          rcases List.mem_append.mp hb with g | g
          · exact vaD_apart hD g (List.mem_append_right _ (List.mem_append_left _ List.mem_cons_self)) he
          · rw [List.mem_singleton] at g
            subst g
            exact vaD_apart hD3 (u := [(o, x)]) List.mem_cons_self List.mem_cons_self he.symm
        · rw [List.mem_singleton] at h
          subst h
          exact vaP_iff.mp hP' _ (List.mem_append_right _ List.mem_cons_self)
  obtain ⟨t2, a1, b1⟩ := kk k M' oe T'.heap (locs ++ L) hq ⟨hPn, ⟨Nat.le_trans hw.2.1 (by rw [e1]; exact hz), fun q h1 h2 => by rw [e1, hk q (Nat.lt_of_lt_of_le h1 hw.2.1) (fun y => h2 (hsub q y))]; exact hw.2.2.1 q h1 h2, fun q hq => by
      rcases List.mem_append.mp hq with h | h
      · exact hw.2.2.2 q h
      · exact hsub _ (hL q h)⟩⟩ T' rfl X'
  exact ⟨t2, st t2 a1, b1⟩

end LAWH
