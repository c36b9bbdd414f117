/-! What the start gives: the classes, the arrays' classes, the tables, what a throw wants. -/
theorem exactly_ref {tm : Term} {C : String} {args : Array Value} {s : State} (h : (Cond.exactly tm C).before args s = true) : ∃ a, tm.eval args s none [] s = some (.ref a) := by
  cases hv : tm.eval args s none [] s with
  | none => simp [Cond.before, Cond.holds, Cond.value, hv] at h
  | some v => cases hf : s.vm.findClass C <;> cases v <;> first | exact ⟨_, rfl⟩ | simp [Cond.before, Cond.holds, Cond.value, hv, hf] at h
theorem eq_int {tm : Term} {n : Int32} {args : Array Value} {s : State} (h : (Cond.eq tm (.int n)).before args s = true) : tm.eval args s none [] s = some (.int n) := by
  cases hv : tm.eval args s none [] s with
  | none => simp [Cond.before, Cond.holds, Cond.value, hv] at h
  | some v =>
    cases v <;> simp_all [Cond.before, Cond.holds, Cond.value, Term.eval]
theorem arr_known {D : va_G} {s : State} {args : Array Value} {ty : FieldType} (hob : ∀ C, ty ≠ .object C) (hK : ∀ (c : Nat) (q : vw_C), vcl[c]? = some q → u_Kn s q.1 q.2.1 q.2.2 (D.1 c) (D.2 c)) (h : (Cond.arrayClass ty).before args s = true) : ∃ cA, va_K D vcl [(cA, ty)] s := by
  obtain ⟨cA, kA, comp, h1, h2, h3⟩ := Cond.arrayClass_spec h
  refine ⟨cA, hK, fun k q hq => ?_⟩
  cases k with
  | zero =>
    cases hq
    refine ⟨fun n z => ⟨fun k h => (by cases h), kA, h2, comp, h3⟩, ?_⟩
    cases ty <;> first | exact h1 | exact absurd rfl (hob _)
  | succ k => cases hq
def strOk (L : List Cond) (w : Cond) : Bool := match w with | .stringRef o i _ => decide (Cond.exactly (.string o i) "java/lang/String" ∈ L) | _ => true
set_option maxRecDepth 1000000 in
theorem str_ok : ∀ w ∈ lw_tbl, strOk (flatC narrow_1) w = true := by decide +kernel
def nocast (i j : Nat) : Cond := if i = j then .castable (xn i) (xn j) else .not (.castable (xn i) (xn j))
set_option maxRecDepth 1000000 in
theorem cast_ok : ∀ i, i < 5 → ∀ j, j < 5 → (i = j ∧ nocast i j ∈ lw_tbl) ∨ (i ≠ j ∧ nocast i j ∈ flatC narrow_1) := by decide +kernel
theorem Tc_start {s : State} {args : Array Value} (hts : ∀ w ∈ lw_tbl, w.before args s = true) (hn : ∀ w ∈ flatC narrow_1, w.before args s = true) : Tc s := by
  intro i j hi hj
  rcases cast_ok i hi j hj with ⟨rfl, h⟩ | ⟨hne, h⟩
  · have h1 := hts _ h
    simp only [nocast, if_true] at h1
    obtain ⟨c, t, g1, g2, g3⟩ := Cond.castable_spec h1
    exact ⟨c, t, g1, g2, by rw [g3]; simp⟩
  · have h1 := hn _ h
    simp only [nocast, if_neg hne] at h1
    have hv := Cond.holds_not_iff.mp h1
    simp only [Cond.value] at hv
    cases g1 : s.vm.findClass (xn i) with
    | none => simp [g1] at hv
    | some c =>
      cases g2 : s.vm.findClass (xn j) with
      | none => simp [g1, g2] at hv
      | some t =>
        simp only [g1, g2] at hv
        exact ⟨c, t, rfl, rfl, by rw [Option.some.inj hv]; simp [hne]⟩
set_option maxRecDepth 1000000 in
set_option maxHeartbeats 4000000 in
theorem start_facts {s : State} {args : Array Value} (hts : ∀ w ∈ lw_tbl, w.before args s = true) (hn : ∀ w ∈ flatC narrow_1, w.before args s = true) : ∃ (D : va_G) (cA cL cD : ClassId) (tb : Nat → Nat), va_K D vcl [(cA, .int)] s ∧ va_K D vcl [(cL, .long)] s ∧ va_K D vcl [(cD, .double)] s ∧ Sx tb (Al s) s s.heap ∧ Tx (Al s) s s.heap := by
  have hA : ∀ a : Nat, a < s.heap.size → ¬ Al s a := fun a h => Nat.not_le.mpr h
  have hwa : ∀ w ∈ WA, w.before args s = true := fun w h => hts w (List.mem_filter.mp h).1
  obtain ⟨c0, iS0, hK0⟩ := u_known (C := R_T) (T := F_T) (N := 5) (n := 5) hwa i_T (hts (.instantiable R_T 5) (by decide +kernel))
  obtain ⟨c1, iS1, hK1⟩ := u_known (C := R_K) (T := F_K) (N := 11) (n := 11) hwa i_K (hts (.instantiable R_K 11) (by decide +kernel))
  obtain ⟨c2, iS2, hK2⟩ := u_known (C := R_P) (T := F_P) (N := 8) (n := 8) hwa i_P (hts (.instantiable R_P 8) (by decide +kernel))
  obtain ⟨c3, iS3, hK3⟩ := u_known (C := R_Y) (T := F_Y) (N := 6) (n := 6) hwa i_Y (hts (.instantiable R_Y 6) (by decide +kernel))
  obtain ⟨c4, iS4, hK4⟩ := u_known (C := R_S) (T := F_S) (N := 7) (n := 7) hwa i_S (hts (.instantiable R_S 7) (by decide +kernel))
  obtain ⟨c5, iS5, hK5⟩ := u_known (C := R_Q) (T := F_Q) (N := 13) (n := 13) hwa i_Q (hts (.instantiable R_Q 13) (by decide +kernel))
  obtain ⟨c6, iS6, hK6⟩ := u_known (C := R_R) (T := F_R) (N := 51) (n := 51) hwa i_R (hts (.instantiable R_R 51) (by decide +kernel))
  obtain ⟨D, hKc⟩ : ∃ D : va_G, ∀ (k : Nat) (q : vw_C), vcl[k]? = some q → u_Kn s q.1 q.2.1 q.2.2 (D.1 k) (D.2 k) := by
    refine ⟨(fun k => [c0, c1, c2, c3, c4, c5, c6].getD k c0, fun k => [iS0, iS1, iS2, iS3, iS4, iS5, iS6].getD k iS0), ?_⟩
    intro k q hq
    match k, hq with
    | 0, hq => cases hq; exact hK0
    | 1, hq => cases hq; exact hK1
    | 2, hq => cases hq; exact hK2
    | 3, hq => cases hq; exact hK3
    | 4, hq => cases hq; exact hK4
    | 5, hq => cases hq; exact hK5
    | 6, hq => cases hq; exact hK6
    | k + 7, hq => cases hq
  obtain ⟨cA, hKA⟩ := arr_known (ty := .int) (fun C h => by cases h) hKc (hts _ (by decide +kernel))
  obtain ⟨cL, hKL⟩ := arr_known (ty := .long) (fun C h => by cases h) hKc (hts _ (by decide +kernel))
  obtain ⟨cD, hKD⟩ := arr_known (ty := .double) (fun C h => by cases h) hKc (hts _ (by decide +kernel))
  have hel0 : ∀ j : Nat, j < 4 → (Term.elem (.static "TileConsole$Ports" "TIMER_MASKS" "[I") (.int (Int32.ofNat j))).eval args s none [] s = some (.int (tv_c0 j)) := by
    intro j hj
    match j, hj with
    | 0, _ => exact eq_int (hn (.eq (.elem (.static "TileConsole$Ports" "TIMER_MASKS" "[I") (.int 0)) (.int 255)) (by decide +kernel))
    | 1, _ => exact eq_int (hn (.eq (.elem (.static "TileConsole$Ports" "TIMER_MASKS" "[I") (.int 1)) (.int 3)) (by decide +kernel))
    | 2, _ => exact eq_int (hn (.eq (.elem (.static "TileConsole$Ports" "TIMER_MASKS" "[I") (.int 2)) (.int 15)) (by decide +kernel))
    | 3, _ => exact eq_int (hn (.eq (.elem (.static "TileConsole$Ports" "TIMER_MASKS" "[I") (.int 3)) (.int 63)) (by decide +kernel))
    | j + 4, h => exact absurd h (by omega)
  obtain ⟨t0, ht0, hT0⟩ := va_Tof (A := Al s) (tm := (.static "TileConsole$Ports" "TIMER_MASKS" "[I")) (ty := .int) (N := 4) (f := fun k => .int (tv_c0 k)) (by decide) (hn (.arrayOf (.static "TileConsole$Ports" "TIMER_MASKS" "[I") .int) (by decide +kernel)) (eq_int (hn (.eq (.length (.static "TileConsole$Ports" "TIMER_MASKS" "[I")) (.int 4)) (by decide +kernel))) hel0 hA
  have hZ0 := va_Zof (A := Al s) (hts (.laysStatic "TileConsole$Ports" "TIMER_MASKS" "[I") (by decide +kernel)) (hts (.initialized "TileConsole$Ports") (by decide +kernel)) ht0 hA
  have hel1 : ∀ j : Nat, j < 8 → (Term.elem (.static "TileConsole$Processor" "FACE_ORDER" "[I") (.int (Int32.ofNat j))).eval args s none [] s = some (.int (tv_c1 j)) := by
    intro j hj
    match j, hj with
    | 0, _ => exact eq_int (hn (.eq (.elem (.static "TileConsole$Processor" "FACE_ORDER" "[I") (.int 0)) (.int 7)) (by decide +kernel))
    | 1, _ => exact eq_int (hn (.eq (.elem (.static "TileConsole$Processor" "FACE_ORDER" "[I") (.int 1)) (.int 6)) (by decide +kernel))
    | 2, _ => exact eq_int (hn (.eq (.elem (.static "TileConsole$Processor" "FACE_ORDER" "[I") (.int 2)) (.int 0)) (by decide +kernel))
    | 3, _ => exact eq_int (hn (.eq (.elem (.static "TileConsole$Processor" "FACE_ORDER" "[I") (.int 3)) (.int 1)) (by decide +kernel))
    | 4, _ => exact eq_int (hn (.eq (.elem (.static "TileConsole$Processor" "FACE_ORDER" "[I") (.int 4)) (.int 2)) (by decide +kernel))
    | 5, _ => exact eq_int (hn (.eq (.elem (.static "TileConsole$Processor" "FACE_ORDER" "[I") (.int 5)) (.int 3)) (by decide +kernel))
    | 6, _ => exact eq_int (hn (.eq (.elem (.static "TileConsole$Processor" "FACE_ORDER" "[I") (.int 6)) (.int 4)) (by decide +kernel))
    | 7, _ => exact eq_int (hn (.eq (.elem (.static "TileConsole$Processor" "FACE_ORDER" "[I") (.int 7)) (.int 5)) (by decide +kernel))
    | j + 8, h => exact absurd h (by omega)
  obtain ⟨t1, ht1, hT1⟩ := va_Tof (A := Al s) (tm := (.static "TileConsole$Processor" "FACE_ORDER" "[I")) (ty := .int) (N := 8) (f := fun k => .int (tv_c1 k)) (by decide) (hn (.arrayOf (.static "TileConsole$Processor" "FACE_ORDER" "[I") .int) (by decide +kernel)) (eq_int (hn (.eq (.length (.static "TileConsole$Processor" "FACE_ORDER" "[I")) (.int 8)) (by decide +kernel))) hel1 hA
  have hZ1 := va_Zof (A := Al s) (hts (.laysStatic "TileConsole$Processor" "FACE_ORDER" "[I") (by decide +kernel)) (hts (.initialized "TileConsole$Processor") (by decide +kernel)) ht1 hA
  refine ⟨D, cA, cL, cD, fun k => if k = 0 then t0 else t1, hKA, hKL, hKD, ⟨hZ0, hT0, hZ1, hT1⟩, ⟨?_, ?_, ?_⟩, ⟨?_, ?_⟩, ?_, Tc_start hts hn⟩
  · exact va_Zqof (hts (.laysStatic "java/lang/Throwable" "UNASSIGNED_STACK" "[Ljava/lang/StackTraceElement;") (by decide +kernel)) (hts (.initialized "java/lang/Throwable") (by decide +kernel)) (hn (.isRef (.static "java/lang/Throwable" "UNASSIGNED_STACK" "[Ljava/lang/StackTraceElement;")) (by decide +kernel)) hA
  · exact va_Zqof (hts (.laysStatic "java/lang/Throwable" "SUPPRESSED_SENTINEL" "Ljava/util/List;") (by decide +kernel)) (hts (.initialized "java/lang/Throwable") (by decide +kernel)) (hn (.isRef (.static "java/lang/Throwable" "SUPPRESSED_SENTINEL" "Ljava/util/List;")) (by decide +kernel)) hA
  · intro w hw he
    obtain ⟨i, t, rfl⟩ := he
    have h1 := str_ok _ hw
    simp only [strOk, decide_eq_true_eq] at h1
    obtain ⟨a, ha⟩ := exactly_ref (hn _ h1)
    exact ⟨a, vk_R.of (hts _ hw) ha⟩
  · exact LSt.of (hts (.laysStatic "java/lang/Throwable" "UNASSIGNED_STACK" "[Ljava/lang/StackTraceElement;") (by decide +kernel)) hA
  · exact LSt.of (hts (.laysStatic "java/lang/Throwable" "SUPPRESSED_SENTINEL" "Ljava/util/List;") (by decide +kernel)) hA
  · exact fun w hw hnw => va_Nw.of (nw_tables hnw) (hts w hw)
