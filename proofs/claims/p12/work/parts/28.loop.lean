def R_law : String := "TileConsoleLaw"
def lw_P (b : Addr) (xs : List Int32) (args : Array Value) (s : State) : Prop := args = #[.ref b] ∧ s.IntsAt b xs ∧ xs.length ≤ 3072 ∧ (Jvm.Cond.and given_1 narrow_1).before args s = true
def lw_Q (_ : Array Value) (s : State) (o : Outcome) (t : State) : Prop := o = .returned (some (.int 1)) ∧ Framed s o t [] 601024 7293034
def lw_Z (below : List Frame) (a : Array Value) (s : State) : State → Prop := fun t => ∃ o, t.status = .running ∧ Ended t below o ∧ lw_Q a s o t
/-- the law's own end, with 1 on the stack, nothing written that was there before, its room as the claim has it -/
theorem lw_ret {p : Program} {l : Launch} {e : Env} {s : State} {m : MethodId} {below : List Frame} {meth : Method} {c : Code} {b : Nat} (hx : p.tables.exec = Jvm.exec) (hb : c.code = code) (hr : meth.sig.returnType = ret) (hlocks : meth.locks = false) {pc : Nat} {H : Heap} {ls : Array Slot} (hdg : decode code pc = .ok (.ireturn, 1)) : W p l e room_1 s m #[Value.ref b] below meth c H [] 601024 7293034 (lw_Z below #[Value.ref b] s) (F0 m pc ls [.int 1]) := by
  intro T hT X
  obtain ⟨fs, hret, hrun, hended, hW, hframe⟩ := X.leave (v := some (.int 1)) (hlocks := hlocks) (fun h => by rw [hr] at h; cases h)
  have hmeth' : T.vm.method? m = some meth := X.method'
  refine ⟨T.setFrames fs, ?_, .returned (some (.int 1)), hrun, hended, rfl, ⟨_, rfl⟩, hW, hframe⟩
  jvm_step X.here [X.here.top, hx, hb, hdg, hmeth', hr, ret, narrow_b1]
  (try refine ⟨rfl, ?_⟩); (try refine ⟨rfl, ?_⟩)
  first | (intro acts; rw [hret _ acts rfl rfl rfl]) | rw [hret _ _ rfl rfl rfl]
  exact Steps.refl _
/-- what holds at the law's entry: the machine, the code, the tables' words (any of lw_tbl by 'hts w (by decide +kernel)'), the script of L ints xs at the cell b, what the Statement gives of the start (any of its parts by flat_of_before) -/
def lw_At (p : Program) (s : State) (m : MethodId) (meth : Method) (c : Code) (b L : Nat) (xs : Nat → Int32) : Prop :=
  p.tables.exec = Jvm.exec ∧ c.code = code ∧ meth.sig.returnType = ret ∧ c.maxLocals = 9 ∧ s.vm.findClass R_law = some m.cls ∧ (∀ w ∈ lw_tbl, w.before #[Value.ref b] s = true) ∧ va_X b L xs s s.heap ∧ b < s.heap.size ∧ meth.locks = false ∧ (Jvm.Cond.and given_1 narrow_1).before #[Value.ref b] s = true
theorem sub6 {L : Nat} (h : L < 2 ^ 31 - 6) : (Int32.ofNat L - 6).toInt = (L : Int) - 6 := by
  have h1 : (Int32.ofNat L).toInt = (L : Int) := nI_toInt (by omega)
  rw [Int32.toInt_sub, h1, show (6 : Int32).toInt = 6 from by decide]
  exact Int.bmod_eq_of_le (by omega) (by omega)
theorem sw_out {x : Int32} (h0 : ¬ x = 0) (h1 : ¬ x = 1) (h2 : ¬ x = 2) (h3 : ¬ x = 3) (h4 : ¬ x = 4) (h5 : ¬ x = 5) (h6 : ¬ x = 6) (h7 : ¬ x = 7) (h8 : ¬ x = 8) (h9 : ¬ x = 9) (h10 : ¬ x = 10) (h11 : ¬ x = 11) : x.toInt < 0 ∨ 11 < x.toInt := by
  rcases Int.lt_or_le x.toInt 0 with h | h
  · exact Or.inl h
  rcases Int.lt_or_le 11 x.toInt with hh | hh
  · exact Or.inr hh
  have hd : x.toInt = 0 ∨ x.toInt = 1 ∨ x.toInt = 2 ∨ x.toInt = 3 ∨ x.toInt = 4 ∨ x.toInt = 5 ∨ x.toInt = 6 ∨ x.toInt = 7 ∨ x.toInt = 8 ∨ x.toInt = 9 ∨ x.toInt = 10 ∨ x.toInt = 11 := by omega
  rcases hd with h | h | h | h | h | h | h | h | h | h | h | h
  · exact absurd (Int32.toInt_inj.mp (h.trans (by decide))) h0
  · exact absurd (Int32.toInt_inj.mp (h.trans (by decide))) h1
  · exact absurd (Int32.toInt_inj.mp (h.trans (by decide))) h2
  · exact absurd (Int32.toInt_inj.mp (h.trans (by decide))) h3
  · exact absurd (Int32.toInt_inj.mp (h.trans (by decide))) h4
  · exact absurd (Int32.toInt_inj.mp (h.trans (by decide))) h5
  · exact absurd (Int32.toInt_inj.mp (h.trans (by decide))) h6
  · exact absurd (Int32.toInt_inj.mp (h.trans (by decide))) h7
  · exact absurd (Int32.toInt_inj.mp (h.trans (by decide))) h8
  · exact absurd (Int32.toInt_inj.mp (h.trans (by decide))) h9
  · exact absurd (Int32.toInt_inj.mp (h.trans (by decide))) h10
  · exact absurd (Int32.toInt_inj.mp (h.trans (by decide))) h11
set_option maxHeartbeats 4000000 in
theorem law_loop {p : Program} {l : Launch} {e : Env} {s : State} {m : MethodId} {below : List Frame} {meth : Method} {c : Code} {b L : Nat} {xs : Nat → Int32} {D : va_G} {ad ad2 : Nat → Nat} {cA cL cD : ClassId} {tb : Nat → Nat} {o od : Nat} (hl0 : l.stackTraces = false) (hX : Lx p m c code 9 s #[Value.ref b] D ad ad2 cA cL cD tb o od) (C0 : lw_At p s m meth c b L xs) (hL : L ≤ 3072) (Inv : Nat → Mem → Mem → Prop) (hstep : ∀ (j : Nat) (M N : Mem), 6 * j + 6 ≤ L → Inv j M N → Step M N (fun k => xs (6 * j + k)) (Inv (j + 1))) :
    ∀ (n j : Nat) (H : Heap) (locs : List Loc) (ls : Array Slot) (M N : Mem) (f : Nat → Int64) (g : Nat → UInt64), L ≤ 6 * j + 6 * n + 5 → 6 * j ≤ L → Inv j M N → Lw D ad ad2 cA o od s H locs M N (oL cL f) (oD cD g) → lv_has ls 9 [(5, .int (nI (6 * j))), (4, .ref od), (3, .ref o), (2, .ref (ad2 0)), (1, .ref (ad 0)), (0, .ref b)] → W p l e room_1 s m #[Value.ref b] below meth c H locs (law_c + j) (law_s + 6 * j) (lw_Z below #[Value.ref b] s) (F0 m 28 ls []) := by
  have hx := hX.1.1
  have hb := hX.1.2.1
  obtain ⟨-, -, hr, -, -, -, hXs, hbl, hlk, -⟩ := C0
  have hbA : ¬ Al s b := Nat.not_le.mpr hbl
  intro n
  induction n with
  | zero =>
    intro j H locs ls M N f g h1 h2 hI hw hl
    refine lv_iload hx hb d_law_28 (lv_at hl 0 rfl) ?_
    refine lv_aload_n hx hb d_law_30 rfl (lv_at hl 5 rfl) ?_
    refine va_slen hx hb hXs hbl hbA hw.2 d_law_31 ?_
    refine lv_bipush (v := 6) hx hb d_law_32 (by decide) ?_
    refine lv_isub hx hb d_law_34 ?_
    refine lv_icmp_gt (tgt := 603) hx hb d_law_35 (by decide) (fun _ => ?_) (fun hc => ?_)
    · refine lv_iconst (v := 1) hx hb d_law_603 (by decide) ?_
      refine va_forget (fun q h => hw.2.2.2 q h) ?_
      refine W.widen (k := 601024) (n := 7293034) (by unfold law_c; omega) (by unfold law_s; omega) ?_
      exact lw_ret hx hb hr hlk d_law_604
    · refine absurd (Int32.lt_iff_toInt_lt.mpr ?_) hc
      rw [sub6 (by omega), nI_toInt (by omega)]
      omega
  | succ n ih =>
    intro j H locs ls M N f g h1 h2 hI hw hl
    refine lv_iload hx hb d_law_28 (lv_at hl 0 rfl) ?_
    refine lv_aload_n hx hb d_law_30 rfl (lv_at hl 5 rfl) ?_
    refine va_slen hx hb hXs hbl hbA hw.2 d_law_31 ?_
    refine lv_bipush (v := 6) hx hb d_law_32 (by decide) ?_
    refine lv_isub hx hb d_law_34 ?_
    refine lv_icmp_gt (tgt := 603) hx hb d_law_35 (by decide) (fun _ => ?_) (fun hc => ?_)
    · refine lv_iconst (v := 1) hx hb d_law_603 (by decide) ?_
      refine va_forget (fun q h => hw.2.2.2 q h) ?_
      refine W.widen (k := 601024) (n := 7293034) (by unfold law_c; omega) (by unfold law_s; omega) ?_
      exact lw_ret hx hb hr hlk d_law_604
    have h6 : 6 * j + 6 ≤ L := by
      rcases Nat.lt_or_ge L (6 * j + 6) with h | h
      · refine absurd (Int32.lt_iff_toInt_lt.mpr ?_) hc
        rw [sub6 (by omega), nI_toInt (by omega)]
        omega
      · exact h
    have hS := hstep j M N h6 hI
    have hcl : law_c + j + 1 ≤ room_1.cells ∧ law_s + 6 * j + 6 ≤ room_1.slots := by
      refine ⟨Nat.le_trans (m := 601024) (by unfold law_c; omega) (Nat.le_of_ble_eq_true rfl), Nat.le_trans (m := 7293034) (by unfold law_s; omega) (Nat.le_of_ble_eq_true rfl)⟩
    have hL31 : L < 2 ^ 31 := by omega
    have kend : ∀ (M' N' : Mem) (f' : Nat → Int64) (g' : Nat → UInt64) (H' : Heap) (locs' : List Loc) (ls' : Array Slot), Inv (j + 1) M' N' → Lw D ad ad2 cA o od s H' locs' M' N' (oL cL f') (oD cD g') → lv_has ls' 9 [(5, .int (nI (6 * j))), (4, .ref od), (3, .ref o), (2, .ref (ad2 0)), (1, .ref (ad 0)), (0, .ref b)] → W p l e room_1 s m #[Value.ref b] below meth c H' locs' (law_c + j + 1) (law_s + 6 * j + 6) (lw_Z below #[Value.ref b] s) (F0 m 597 ls' []) := by
      intro M' N' f' g' H' locs' ls' hI' hw' hl'
      refine lv_iinc (i := 5) (k := 0) (v := nI (6 * (j + 1))) hx hb d_law_597 hl' rfl (by rw [show Int32.ofInt 6 = nI 6 from by decide, nI_add]; congr 1) (Nat.le_of_ble_eq_true rfl) rfl (fun ls2 hl2 => ?_)
      refine lv_goto (tgt := 28) hx hb d_law_600 (by decide) ?_
      exact ih (j + 1) H' locs' ls2 M' N' f' g' (by omega) (by omega) hI' hw' hl2
    refine lv_aload_n hx hb d_law_38 rfl (lv_at hl 5 rfl) ?_
    refine lv_iload hx hb d_law_39 (lv_at hl 0 rfl) ?_
    refine va_sld hx hb hXs hbl hbA hw.2 (nI_in (by omega) hL31) d_law_41 ?_
    rw [nI_clamp (by omega)]
    refine lv_bipush (v := 15) hx hb d_law_42 (by decide) ?_
    refine lv_iand hx hb d_law_44 ?_
    obtain ⟨hS0, hS1, hS2, hS3, hS4, hS5, hS6, hS7, hS8, hS9, hS10, hS11, hSd⟩ := hS
    by_cases e0 : xs (6 * j) &&& 15 = 0
    · rw [e0]
      refine lv_tableIn (tgt := 108) hx hb d_law_45 (by decide) (by decide) rfl (by decide) ?_
      exact cs_rom hl0 hX hw hXs hbl hl h6 hL31 hcl (hS0 e0) kend
    by_cases e1 : xs (6 * j) &&& 15 = 1
    · rw [e1]
      refine lv_tableIn (tgt := 204) hx hb d_law_45 (by decide) (by decide) rfl (by decide) ?_
      exact cs_insert hl0 hX hw hXs hbl hl h6 hL31 hcl (hS1 e1) kend
    by_cases e2 : xs (6 * j) &&& 15 = 2
    · rw [e2]
      refine lv_tableIn (tgt := 232) hx hb d_law_45 (by decide) (by decide) rfl (by decide) ?_
      exact cs_run hl0 hX hw hXs hbl hl h6 hL31 hcl (hS2 e2) kend
    by_cases e3 : xs (6 * j) &&& 15 = 3
    · rw [e3]
      refine lv_tableIn (tgt := 260) hx hb d_law_45 (by decide) (by decide) rfl (by decide) ?_
      exact cs_set hl0 hX hw hXs hbl hl h6 hL31 hcl (hS3 e3) kend
    by_cases e4 : xs (6 * j) &&& 15 = 4
    · rw [e4]
      refine lv_tableIn (tgt := 300) hx hb d_law_45 (by decide) (by decide) rfl (by decide) ?_
      exact cs_register hl0 hX hw hXs hbl hl h6 hL31 hcl (hS4 e4) kend
    by_cases e5 : xs (6 * j) &&& 15 = 5
    · rw [e5]
      refine lv_tableIn (tgt := 328) hx hb d_law_45 (by decide) (by decide) rfl (by decide) ?_
      exact cs_read hl0 hX hw hXs hbl hl h6 hL31 hcl (hS5 e5) kend
    by_cases e6 : xs (6 * j) &&& 15 = 6
    · rw [e6]
      refine lv_tableIn (tgt := 356) hx hb d_law_45 (by decide) (by decide) rfl (by decide) ?_
      exact cs_write hl0 hX hw hXs hbl hl h6 hL31 hcl (hS6 e6) kend
    by_cases e7 : xs (6 * j) &&& 15 = 7
    · rw [e7]
      refine lv_tableIn (tgt := 440) hx hb d_law_45 (by decide) (by decide) rfl (by decide) ?_
      exact cs_keys hl0 hX hw hXs hbl hl h6 hL31 hcl (hS7 e7) kend
    by_cases e8 : xs (6 * j) &&& 15 = 8
    · rw [e8]
      refine lv_tableIn (tgt := 468) hx hb d_law_45 (by decide) (by decide) rfl (by decide) ?_
      exact cs_row hl0 hX hw hXs hbl hl h6 hL31 hcl (hS8 e8) kend
    by_cases e9 : xs (6 * j) &&& 15 = 9
    · rw [e9]
      refine lv_tableIn (tgt := 496) hx hb d_law_45 (by decide) (by decide) rfl (by decide) ?_
      exact cs_pixel hl0 hX hw hXs hbl hl h6 hL31 hcl (hS9 e9) kend
    by_cases e10 : xs (6 * j) &&& 15 = 10
    · rw [e10]
      refine lv_tableIn (tgt := 524) hx hb d_law_45 (by decide) (by decide) rfl (by decide) ?_
      exact cs_count hl0 hX hw hXs hbl hl h6 hL31 hcl (hS10 e10) kend
    by_cases e11 : xs (6 * j) &&& 15 = 11
    · rw [e11]
      refine lv_tableIn (tgt := 580) hx hb d_law_45 (by decide) (by decide) rfl (by decide) ?_
      exact cs_speed hl0 hX hw hXs hbl hl h6 hL31 hcl (hS11 e11) kend
    refine lv_tableOut (tgt := 597) hx hb d_law_45 (sw_out e0 e1 e2 e3 e4 e5 e6 e7 e8 e9 e10 e11) (by decide) ?_
    refine W.widen (k := law_c + j + 1) (n := law_s + 6 * j + 6) (by omega) (by omega) ?_
    exact kend _ _ _ _ _ _ _ (hSd ⟨e0, e1, e2, e3, e4, e5, e6, e7, e8, e9, e10, e11⟩) hw hl
/-- all that is wanting of class and reference: they begin alike, and every call keeps them alike -/
theorem law_all {p : Program} {e : Env} {s : State} {m : MethodId} {below : List Frame} {meth : Method} {c : Code} (l : Launch) (hl0 : l.stackTraces = false) {b L : Nat} {xs : Nat → Int32} (hL : L ≤ 3072) (C0 : lw_At p s m meth c b L xs) (Inv : Nat → Mem → Mem → Prop) (Q1 Q2 : Mem → Prop) (hk1 : wp_T_startAnew (fun _ _ => 0) Q1) (hk2 : wp_R_reset (fun _ _ => 0) Q2) (hI : ∀ M N, Q1 M → Q2 N → Inv 0 M N)
    (hstep : ∀ (j : Nat) (M N : Mem), 6 * j + 6 ≤ L → Inv j M N → Step M N (fun k => xs (6 * j + k)) (Inv (j + 1))) : W p l e room_1 s m #[Value.ref b] below meth c s.heap [] 0 0 (lw_Z below #[Value.ref b] s) (entryFrame m ([Value.ref b] : List Value).toArray 9) := by
  have C1 := C0
  obtain ⟨hx, hb, hr, hml, hown, hts, hXs, hbl, hlk, hgv⟩ := C0
  refine law_pro hx hb hml hown hts (fun w h => flat_of_before _ hgv w (show w ∈ flatC (Jvm.Cond.and given_1 narrow_1) from by simp only [flatC]; exact List.mem_append_right _ h)) Q1 Q2 hk1 hk2 ?_
  intro D ad ad2 cA cL cD tb o od M N H locs ls hX hw hq1 hq2 hl
  exact law_loop hl0 hX C1 hL Inv hstep L 0 H locs ls M N _ _ (by omega) (by omega) (hI M N hq1 hq2) hw hl
