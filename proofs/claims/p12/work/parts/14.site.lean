/-! the five instructions: new, dup, ldc, invokespecial, athrow -/
theorem va_Zq_ref {C n d : String} {A : Nat → Prop} {U : State} {args : Array Value} (h : va_Zq C n d A U U.heap) : (Cond.isRef (.static C n d)).before args U = true := by
  have key : ∀ v : Value, va_Z C n d v A U U.heap → (Term.static C n d).eval args U none [] U = some v := by
    intro v hz
    obtain ⟨cf, kf, fi, f, a, cell, h1, h2, h3, h4, h5, h6, h7, -⟩ := hz
    simp [Term.eval, State.fieldNamed?, h1, h2, h4, h5, h6, h7]
  rcases h with h | ⟨t, h⟩
  · have h1 := key _ h
    simp [Cond.before, Cond.holds, Cond.value, h1]
  · have h1 := key _ h
    simp [Cond.before, Cond.holds, Cond.value, h1]
theorem same_cells {a b : State} {k n : Nat} (h : a.sameButNew b [] k n) : ∀ q : Nat, q < a.heap.size → b.heap[q]? = a.heap[q]? := by
  intro q hq
  obtain ⟨-, -, -, -, -, h6⟩ := h
  obtain ⟨c', h1, h2, h3, h4⟩ := h6 q a.heap[q] (Array.getElem?_eq_getElem hq)
  rw [h1, Array.getElem?_eq_getElem hq]
  congr 1
  rw [h2]
  have hs : c'.slots = a.heap[q].slots := by
    apply Array.ext_getElem?
    intro i
    exact h4 i (by simp)
  rw [hs]
section SITE
variable {p : Program} {l : Launch} {e : Env} {R : Room} {s : State} {m : MethodId} {args : Array Value} {below : List Frame} {meth : Method} {c : Code} {H : Heap} {locs : List Loc} {QQ : State → Prop}
variable {cc : ByteArray} {pc nL : Nat} {ls : Array Slot} {D : va_G} {ce : Mem → va_W} {cA : ClassId} {tb : Nat → Nat} {A : Nat → Prop} {M : Mem} {Tq : Nat → Mem → Prop}
set_option maxHeartbeats 4000000 in
theorem thr_site {k icl isx ic : Nat} {tx : String} (names : List String) (hQQ : QQ = MQX below (PostX D ce A Tq) args s A) (hC : Cx p m c cc nL s args "TileConsole" D ce cA tb A) (hT : Tx A s s.heap) (hl0 : l.stackTraces = false) (hnh : c.exceptionTable.isEmpty = true) (hlk : meth.locks = false) (hw : Wd D ce A s H locs M) (hsize : ls.size = nL)
    (hcl : Cond.classLink "TileConsole" icl (xn k) ∈ WA) (hini : Cond.initialized (xn k) ∈ WA) (hins : Cond.instantiable (xn k) 6 ∈ WA) (hst : Cond.stringRef "TileConsole" isx tx ∈ lw_tbl)
    (hat : ∀ a ∈ Bundle.ownAtoms "TileConsole" ic (xn k) names, a ∈ WA ∨ (a ∈ lw_tbl ∧ nwWord a = true) ∨ a = Cond.isRef (.static "java/lang/Throwable" "UNASSIGNED_STACK" "[Ljava/lang/StackTraceElement;") ∨ a = Cond.isRef (.static "java/lang/Throwable" "SUPPRESSED_SENTINEL" "Ljava/util/List;") ∨ a = Cond.laysStatic "java/lang/Throwable" "UNASSIGNED_STACK" "[Ljava/lang/StackTraceElement;" ∨ a = Cond.laysStatic "java/lang/Throwable" "SUPPRESSED_SENTINEL" "Ljava/util/List;")
    (hf1 : Bundle.fit (xn k) = true) (hf2 : ∀ n ∈ names, Bundle.fit n = true)
    (d0 : decode cc pc = .ok (.new icl, 3)) (d3 : decode cc (pc + 3) = .ok (.dup, 1)) (d4 : decode cc (pc + 4) = .ok (.ldc isx, 2)) (d6 : decode cc (pc + 6) = .ok (.invokespecial ic, 3)) (d9 : decode cc (pc + 9) = .ok (.athrow, 1))
    (hR : 1 ≤ R.cells ∧ 6 ≤ R.slots ∧ names.length + 3 < R.frames ∧ 1 + (13 * (names.length + 1) + 42) ≤ R.locals) (hq : Tq k M) : W p l e R s m args below meth c H locs 0 0 QQ (F0 m pc ls []) := by
  subst hQQ
  obtain ⟨hP, hS⟩ := hw
  intro T0 hT0 X0
  have X1 := Stand_rebase X0
  have hxe := hC.1.1
  have hb := hC.1.2.1
  have hnl := hC.1.2.2.1
  have htr : e.platform.stackTraces = false := by rw [X0.admits.platform]; exact hl0
  generalize hs' : T0.setFrames (.invoking m args :: below) = s' at X1
  have hvm : s'.vm = T0.vm := by rw [← hs']; rfl
  have hhp : s'.heap = T0.heap := by rw [← hs']; rfl
  have hWs : s.WarmedH s'.vm := by rw [hvm]; exact X0.warmed
  have hwd : ∀ w ∈ WA, w.before args s' = true := fun w h => word_at hWs (Wa_good h).2 (hC.1.2.2.2.2 w h)
  have hT1 : Tx A s' s'.heap := by
    have h1 : Tx A s H := hT.kept hS.2.1
    have h2 := Tx.warm hWs h1
    rw [hhp, hT0]; exact h2
  have hown : s'.vm.findClass "TileConsole" = some m.cls := by rw [hWs.alike.findClass]; exact hC.1.2.2.2.1
  have hats : ∀ a ∈ Bundle.ownAtoms "TileConsole" ic (xn k) names, a.before args s' = true := by
    intro a ha
    rcases hat a ha with h | h | h | h | h | h
    · exact hwd a h
    · exact va_Nw.use (nw_tables h.2) (hT1.2.2.1 a h.1 h.2)
    · rw [h]; exact va_Zq_ref hT1.1.1
    · rw [h]; exact va_Zq_ref hT1.1.2.1
    · rw [h]; exact hT1.2.1.1.use
    · rw [h]; exact hT1.2.1.2.use
  obtain ⟨sa, hsa⟩ := hT1.1.2.2 _ hst ⟨_, _, rfl⟩
  have hsa : vk_R "TileConsole" isx tx sa s' := hsa
  obtain ⟨vm₁, cX, kX, hfX, hkX, -, -, X2, st1⟩ := X1.newCold hxe (own := "TileConsole") (C := xn k) (index := icl) (n := 6) hown (hwd _ hcl) (hwd _ hins) (hwd _ hini) (g := F0 m pc ls []) rfl (by rw [hb]; exact d0) (by omega) (by omega)
  generalize hTe : (T0.setVm vm₁).pushCell { cls := cX, slots := kX.instanceTypes.map defaultValue, vm := .none } = T2 at X2 st1
  have hcell : T2.heap[T0.heap.size]? = some (freshCell cX kX) := by rw [← hTe]; exact State.heap_pushCell_size _ _
  obtain ⟨U, hsteps, hrun, hend, hW, hsame, ce', hce, K⟩ := X2.ctorThrowS hxe htr (own := "TileConsole") (cls := xn k) (names := names) (ic := ic) hown hf1 hf2 hats (fun y hy => by cases hy) hfX hkX hcell (by rw [hhp]; exact Nat.le_refl _) (msg := .ref sa) rfl
    (g := F0 m (pc + 6) ls [.ref sa, .ref T0.heap.size, .ref T0.heap.size]) rfl (by rw [hnl]; exact hsize) rfl rfl (rest := []) rfl (by rw [hb]; exact d6) (by rw [hb]; exact d9) (covers_of_empty hnh _) hR.2.2.1 (by simp [Value.category, JFrame.monitorRoom]; omega)
  have hkeep : ∀ q : Nat, q < H.size → U.heap[q]? = H[q]? := by
    intro q hq
    have h1 := same_cells hsame q (by rw [hhp, hT0]; exact hq)
    rw [hhp, hT0] at h1
    exact h1
  have hsz : H.size ≤ U.heap.size := by
    have h1 : s'.heap.size ≤ U.heap.size := hsame.2.1
    rw [hhp, hT0] at h1
    exact h1
  have hWU : s.WarmedH U.vm := State.WarmedH.trans X0.warmed (by have h := hW; rw [← hs'] at h; exact h)
  refine ⟨U, ?_, .threw T0.heap.size, hrun, hend, ⟨T0.heap.size, k, M, rfl, hq, hP.kept (fun j q hj => hkeep q.1 (hP j q hj).lt), ⟨Nat.le_trans hS.1 hsz, fun q h1 h2 => by rw [hkeep q (Nat.lt_of_lt_of_le h1 hS.1)]; exact hS.2.1 q h1 h2⟩, by rw [hT0]; exact hS.1, ce', hce, K.vm, ?_⟩, locs, hWU, ?_, hS.2.2⟩
  · refine st1 _ ?_
    show Steps p.tables e below (T2.setTop { method := m, pc := pc + 3, locals := ls, stack := [.ref T0.heap.size], locked := none }) U
    jvm_step X2.here [X2.here.top, hxe, hb, d3, Value.category]
    exact X2.ldcString hxe hown (text := tx) (index := isx) (a := sa) hsa.1 hsa.2 (g := F0 m (pc + 4) ls [.ref T0.heap.size, .ref T0.heap.size]) rfl (by rw [hb]; exact d4) _ hsteps
  · have := K.cls
    rw [hW.alike.findClass]
    exact this
  · have h2 : T0.sameButNew ({ U with vm := T0.vm } : State) [] 1 6 := by
      have h := hsame
      rw [← hs'] at h
      obtain ⟨e1, rest⟩ := h
      rw [State.setFrames_setFrames] at e1
      exact ⟨e1, rest⟩
    have h3 : s.sameButNew ({ U with vm := s.vm } : State) (locs ++ []) (0 + 1) (0 + 6) := X0.same.trans (h2.setVm s.vm)
    rw [List.append_nil] at h3
    exact h3
end SITE
