theorem i64_inj {x y : Int32} (h : x.toInt64 = y.toInt64) : x = y := Int32.toInt_inj.mp (by rw [← Int32.toInt_toInt64 x, ← Int32.toInt_toInt64 y, h])
theorem lcmp_ne {x y : Int64} (h : ¬ x = y) : ¬ (if y < x then (1 : Int32) else if x = y then 0 else -1) = 0 := by
  by_cases e : y < x
  · rw [if_pos e]; decide
  · rw [if_neg e, if_neg h]; decide
theorem hs_count0 {l : Launch} {D : va_G} {cA cL : ClassId} {ad tb : Nat → Nat} (M N : Mem) (p0 : Int32) (o : Nat) (f : Nat → Int64) (h : wp_T_count M p0 (fun x => wp_R_count N p0 (fun b N' => N' 0 0 = 0 ∧ ¬ x = b))) : Hp l y_H_count ws_H_count rm_H_count D (ceC ad cA) cA cL .long tb [.ref (ad 0), .int p0, .ref o] M (o, oL cL f) (fun k M' oe => k = 0 ∧ ∃ x : Int32, oe = oL cL (vp_updL f 0 x.toInt64) ∧ wp_R_count N p0 (fun b N' => N' 0 0 = 0 ∧ ¬ x = b)) := by
  refine hp_count M p0 o f _ ?_
  exact Or.inl (Ct.mono (ct_T_count M p0 _ h) (fun r M' hr => by
      obtain ⟨rfl, x, e, hq⟩ := hr
      exact ⟨x, e, ⟨rfl, x, rfl, hq⟩⟩))
set_option maxHeartbeats 4000000 in
theorem cs_count0 {p : Program} {l : Launch} {e : Env} {s : State} {m : MethodId} {below : List Frame} {meth : Method} {c : Code} {b L : Nat} {xs : Nat → Int32} {QQ : State → Prop} {H : Heap} {locs : List Loc} {cells slots : Nat} {ls : Array Slot} {D : va_G} {ad ad2 : Nat → Nat} {cA cL cD : ClassId} {tb : Nat → Nat} {o od : Nat} {M N : Mem} {f : Nat → Int64} {g : Nat → UInt64} {q : Nat}
    (hl0 : l.stackTraces = false) (hX : Lx p m c code 9 s #[Value.ref b] D ad ad2 cA cL cD tb o od) (hw : Lw D ad ad2 cA o od s H locs M N (oL cL f) (oD cD g)) (hXs : va_X b L xs s s.heap) (hbl : b < s.heap.size) (hl : lv_has ls 9 [(5, .int (nI q)), (4, .ref od), (3, .ref o), (2, .ref (ad2 0)), (1, .ref (ad 0)), (0, .ref b)]) (hq : q + 6 ≤ L) (hL : L < 2 ^ 31) (hcl : cells + 1 ≤ room_1.cells ∧ slots + 6 ≤ room_1.slots)
    (hS : wp_T_count M (xs (q + 1)) (fun x => wp_R_count N (xs (q + 1)) (fun b N' => N' 0 0 = 0 ∧ ¬ x = b)))
    (kk : ∀ (M' N' : Mem) (f' : Nat → Int64) (g' : Nat → UInt64) (H' : Heap) (locs' : List Loc) (ls' : Array Slot), Lw D ad ad2 cA o od s H' locs' M' N' (oL cL f') (oD cD g') → W p l e room_1 s m #[Value.ref b] below meth c H' locs' (cells + 1) (slots + 6) QQ (F0 m 856 ls' [.int 0])) :
    W p l e room_1 s m #[Value.ref b] below meth c H locs cells slots QQ (F0 m 804 ls []) := by
  have hx := hX.1.1
  have hb := hX.1.2.1
  have hbA : ¬ Al s b := Nat.not_le.mpr hbl
  refine lv_aload_n hx hb d_law_804 rfl (lv_at hl 4 rfl) ?_
  refine law_ld (q := q) (k := 1) hx hb hXs hbl hbA hw.2 (by omega) hL (by decide) (lv_at hl 5 rfl) (lv_at hl 0 rfl) d_law_805 d_law_806 d_law_808 d_law_809 d_law_810 ?_
  refine lv_aload_n hx hb d_law_811 rfl (lv_at hl 2 rfl) ?_
  refine lr_hl (n := 3) (As := [.ref (ad 0), .int (xs (q + 1)), .ref o]) (rest := []) hX hw (hs_count0 M N (xs (q + 1)) o f hS) k_108 k_109 k_78 wd_H_count rfl (by decide +kernel) ⟨rfl, rfl, Nat.le_of_ble_eq_true rfl, Nat.le_of_ble_eq_true rfl⟩ rfl hl.1 rfl (Nat.le_of_ble_eq_true rfl) d_law_812 hcl (fun k M' oe H locs hq hw => ?_)
  obtain ⟨rfl, x, rfl, hq⟩ := hq
  refine lv_istore (i := 6) hx hb d_law_815 hl (Nat.le_of_ble_eq_true rfl) rfl (fun ls hl => ?_)
  have hl : lv_has ls 9 [(6, .int 0), (5, .int (nI q)), (4, .ref od), (3, .ref o), (2, .ref (ad2 0)), (1, .ref (ad 0)), (0, .ref b)] := hl
  refine lv_aload_n hx hb d_law_817 rfl (lv_at hl 4 rfl) ?_
  refine law_ld (q := q) (k := 1) hx hb hXs hbl hbA hw.2 (by omega) hL (by decide) (lv_at hl 6 rfl) (lv_at hl 1 rfl) d_law_818 d_law_819 d_law_821 d_law_822 d_law_823 ?_
  refine lr_ref (fs := []) (n := 1) (As := [.int (xs (q + 1))]) (rest := []) hX hw (ct_R_count N (xs (q + 1)) _ hq) k_110 mw_R_count rfl ⟨rfl, rfl, Nat.le_of_ble_eq_true rfl, Nat.le_of_ble_eq_true rfl⟩ hcl rfl hl.1 rfl (Nat.le_of_ble_eq_true rfl) d_law_824 (fun r N' H locs hq hw => ?_)
  obtain ⟨b', rfl, hq⟩ := hq
  refine lv_istore (i := 7) hx hb d_law_827 hl (Nat.le_of_ble_eq_true rfl) rfl (fun ls hl => ?_)
  have hl : lv_has ls 9 [(7, .int b'), (6, .int 0), (5, .int (nI q)), (4, .ref od), (3, .ref o), (2, .ref (ad2 0)), (1, .ref (ad 0)), (0, .ref b)] := hl
  refine lv_aload_n hx hb d_law_829 rfl (lv_at hl 5 rfl) ?_
  refine lr_ref (fs := []) (n := 0) (As := []) (rest := []) hX hw (ct_R_thrown N' (fun t => t = N' 0 0) rfl) k_80 mw_R_thrown rfl ⟨rfl, rfl, Nat.le_of_ble_eq_true rfl, Nat.le_of_ble_eq_true rfl⟩ hcl rfl hl.1 rfl (Nat.le_of_ble_eq_true rfl) d_law_830 (fun r N2 H locs ht hw2 => ?_)
  obtain ⟨rfl, t, rfl, rfl⟩ := ht
  have hw := hw2
  refine lv_iload hx hb d_law_833 (lv_at hl 1 rfl) ?_
  refine lv_icmp_eq (tgt := 840) hx hb d_law_835 (by decide) (fun _ => ?_) (fun hc => absurd hq.1 hc)
  refine lv_iload hx hb d_law_840 (lv_at hl 1 rfl) ?_
  refine lv_if_ne (tgt := 857) hx hb d_law_842 (by decide) (fun hc => absurd rfl hc) (fun _ => ?_)
  refine lv_aload_n hx hb d_law_845 rfl (lv_at hl 4 rfl) ?_
  refine lv_iconst (v := 0) hx hb d_law_846 (by decide) ?_
  refine va_lald hx hb hX.2.2.1 hw.1 27 0 rfl rfl vp_in01 d_law_847 ?_
  refine lv_iload hx hb d_law_848 (lv_at hl 0 rfl) ?_
  refine lv_i2l hx hb d_law_850 rfl ?_
  refine lw_lcmp hx hb d_law_851 ?_
  rw [updL_0]
  refine lv_if_eq (tgt := 857) hx hb d_law_852 (by decide) (fun hc => absurd hc (lcmp_ne (fun e => hq.2 (i64_inj e)))) (fun _ => ?_)
  refine lv_iconst (v := 0) hx hb d_law_855 (by decide) ?_
  exact kk _ _ _ _ _ _ _ hw

set_option maxHeartbeats 4000000 in
theorem law_sw {p : Program} {l : Launch} {e : Env} {s : State} {m : MethodId} {below : List Frame} {meth : Method} {c : Code} {b L : Nat} {xs : Nat → Int32} {D : va_G} {ad ad2 : Nat → Nat} {cA cL cD : ClassId} {tb : Nat → Nat} {o od : Nat} {QQ : State → Prop} (hX : Lx p m c code 9 s #[Value.ref b] D ad ad2 cA cL cD tb o od) (C0 : lw_At p s m meth c b L xs) (hL : L ≤ 3072) {j : Nat} {H : Heap} {locs : List Loc} {ls : Array Slot} {M N : Mem} {f : Nat → Int64} {g : Nat → UInt64} {cells slots : Nat} (h6 : 6 * j + 6 ≤ L) (hw : Lw D ad ad2 cA o od s H locs M N (oL cL f) (oD cD g)) (hl : lv_has ls 9 [(5, .int (nI (6 * j))), (4, .ref od), (3, .ref o), (2, .ref (ad2 0)), (1, .ref (ad 0)), (0, .ref b)])
    (kk : W p l e room_1 s m #[Value.ref b] below meth c H locs cells slots QQ (F0 m 45 ls [.int (xs (6 * j) &&& 15)])) : W p l e room_1 s m #[Value.ref b] below meth c H locs cells slots QQ (F0 m 28 ls []) := by
  have hx := hX.1.1
  have hb := hX.1.2.1
  obtain ⟨-, -, hr, -, -, -, hXs, hbl, hlk, -⟩ := C0
  have hbA : ¬ Al s b := Nat.not_le.mpr hbl
  have hL31 : L < 2 ^ 31 := by omega
  refine lv_iload hx hb d_law_28 (lv_at hl 0 rfl) ?_
  refine lv_aload_n hx hb d_law_30 rfl (lv_at hl 5 rfl) ?_
  refine va_slen hx hb hXs hbl hbA hw.2 d_law_31 ?_
  refine lv_bipush (v := 6) hx hb d_law_32 (by decide) ?_
  refine lv_isub hx hb d_law_34 ?_
  refine lv_icmp_gt (tgt := 931) hx hb d_law_35 (by decide) (fun hc => ?_) (fun _ => ?_)
  · exfalso
    have hc' := Int32.lt_iff_toInt_lt.mp hc
    rw [sub6 (by omega), nI_toInt (by omega)] at hc'
    omega
  refine lv_aload_n hx hb d_law_38 rfl (lv_at hl 5 rfl) ?_
  refine lv_iload hx hb d_law_39 (lv_at hl 0 rfl) ?_
  refine va_sld hx hb hXs hbl hbA hw.2 (nI_in (by omega) hL31) d_law_41 ?_
  rw [nI_clamp (by omega)]
  refine lv_bipush (v := 15) hx hb d_law_42 (by decide) ?_
  refine lv_iand hx hb d_law_44 ?_
  exact kk

set_option maxHeartbeats 4000000 in
theorem law_head {p : Program} {l : Launch} {e : Env} {s : State} {m : MethodId} {below : List Frame} {meth : Method} {c : Code} {b L : Nat} {xs : Nat → Int32} {D : va_G} {ad ad2 : Nat → Nat} {cA cL cD : ClassId} {tb : Nat → Nat} {o od : Nat} {QQ : State → Prop} (hl0 : l.stackTraces = false) (hX : Lx p m c code 9 s #[Value.ref b] D ad ad2 cA cL cD tb o od) (C0 : lw_At p s m meth c b L xs) (hL : L ≤ 3072) {K : Mem → Mem → Prop} {j : Nat} {H : Heap} {locs : List Loc} {ls : Array Slot} {M N : Mem} {f : Nat → Int64} {g : Nat → UInt64} (h6 : 6 * j + 6 ≤ L) (hS : Step M N (fun k => xs (6 * j + k)) K) (hw : Lw D ad ad2 cA o od s H locs M N (oL cL f) (oD cD g)) (hl : lv_has ls 9 [(5, .int (nI (6 * j))), (4, .ref od), (3, .ref o), (2, .ref (ad2 0)), (1, .ref (ad 0)), (0, .ref b)])
    (kk : ∀ (M' N' : Mem) (f' : Nat → Int64) (g' : Nat → UInt64) (H' : Heap) (locs' : List Loc) (ls' : Array Slot), K M' N' → Lw D ad ad2 cA o od s H' locs' M' N' (oL cL f') (oD cD g') → lv_has ls' 9 [(5, .int (nI (6 * (j + 1)))), (4, .ref od), (3, .ref o), (2, .ref (ad2 0)), (1, .ref (ad 0)), (0, .ref b)] → W p l e room_1 s m #[Value.ref b] below meth c H' locs' (law_c + (j + 1)) (law_s + 6 * (j + 1)) QQ (F0 m 28 ls' [])) : W p l e room_1 s m #[Value.ref b] below meth c H locs (law_c + j) (law_s + 6 * j) QQ (F0 m 28 ls []) := by
  refine law_sw hX C0 hL h6 hw hl ?_
  have hx := hX.1.1
  have hb := hX.1.2.1
  obtain ⟨-, -, hr, -, -, -, hXs, hbl, hlk, -⟩ := C0
  have hbA : ¬ Al s b := Nat.not_le.mpr hbl
  have hcl : law_c + j + 1 ≤ room_1.cells ∧ law_s + 6 * j + 6 ≤ room_1.slots := by
    refine ⟨Nat.le_trans (m := 601024) (by unfold law_c; omega) (Nat.le_of_ble_eq_true rfl), Nat.le_trans (m := 7293034) (by unfold law_s; omega) (Nat.le_of_ble_eq_true rfl)⟩
  have hL31 : L < 2 ^ 31 := by omega
  have kend : ∀ (M' N' : Mem) (f' : Nat → Int64) (g' : Nat → UInt64) (H' : Heap) (locs' : List Loc) (ls' : Array Slot), K M' N' → Lw D ad ad2 cA o od s H' locs' M' N' (oL cL f') (oD cD g') → lv_has ls' 9 [(5, .int (nI (6 * j))), (4, .ref od), (3, .ref o), (2, .ref (ad2 0)), (1, .ref (ad 0)), (0, .ref b)] → W p l e room_1 s m #[Value.ref b] below meth c H' locs' (law_c + j + 1) (law_s + 6 * j + 6) QQ (F0 m 925 ls' []) := by
    intro M' N' f' g' H' locs' ls' hI' hw' hl'
    refine lv_iinc (i := 5) (k := 0) (v := nI (6 * (j + 1))) hx hb d_law_925 hl' rfl (by rw [show Int32.ofInt 6 = nI 6 from by decide, nI_add]; congr 1) (Nat.le_of_ble_eq_true rfl) rfl (fun ls2 hl2 => ?_)
    refine lv_goto (tgt := 28) hx hb d_law_928 (by decide) ?_
    exact kk M' N' f' g' H' locs' ls2 hI' hw' hl2
  obtain ⟨hS0, hS1, hS2, hS3, hS4, hS5, hS6, hS7, hS8, hS9, hS10, hS11, hSd⟩ := hS
  by_cases e0 : xs (6 * j) &&& 15 = 0
  · rw [e0]
    refine lv_tableIn (tgt := 108) hx hb d_law_45 (by decide) (by decide) rfl (by decide) ?_
    exact cs_rom hl0 hX hw hXs hbl hl h6 hL31 hcl (hS0 e0) kend
  by_cases e1 : xs (6 * j) &&& 15 = 1
  · rw [e1]
    refine lv_tableIn (tgt := 232) hx hb d_law_45 (by decide) (by decide) rfl (by decide) ?_
    exact cs_insert hl0 hX hw hXs hbl hl h6 hL31 hcl (hS1 e1) kend
  by_cases e2 : xs (6 * j) &&& 15 = 2
  · rw [e2]
    refine lv_tableIn (tgt := 288) hx hb d_law_45 (by decide) (by decide) rfl (by decide) ?_
    exact cs_run hl0 hX hw hXs hbl hl h6 hL31 hcl (hS2 e2) kend
  by_cases e3 : xs (6 * j) &&& 15 = 3
  · rw [e3]
    refine lv_tableIn (tgt := 344) hx hb d_law_45 (by decide) (by decide) rfl (by decide) ?_
    exact cs_set hl0 hX hw hXs hbl hl h6 hL31 hcl (hS3 e3) kend
  by_cases e4 : xs (6 * j) &&& 15 = 4
  · rw [e4]
    refine lv_tableIn (tgt := 412) hx hb d_law_45 (by decide) (by decide) rfl (by decide) ?_
    exact cs_register hl0 hX hw hXs hbl hl h6 hL31 hcl (hS4 e4) kend
  by_cases e5 : xs (6 * j) &&& 15 = 5
  · rw [e5]
    refine lv_tableIn (tgt := 468) hx hb d_law_45 (by decide) (by decide) rfl (by decide) ?_
    exact cs_read hl0 hX hw hXs hbl hl h6 hL31 hcl (hS5 e5) kend
  by_cases e6 : xs (6 * j) &&& 15 = 6
  · rw [e6]
    refine lv_tableIn (tgt := 524) hx hb d_law_45 (by decide) (by decide) rfl (by decide) ?_
    exact cs_write hl0 hX hw hXs hbl hl h6 hL31 hcl (hS6 e6) kend
  by_cases e7 : xs (6 * j) &&& 15 = 7
  · rw [e7]
    refine lv_tableIn (tgt := 636) hx hb d_law_45 (by decide) (by decide) rfl (by decide) ?_
    exact cs_keys hl0 hX hw hXs hbl hl h6 hL31 hcl (hS7 e7) kend
  by_cases e8 : xs (6 * j) &&& 15 = 8
  · rw [e8]
    refine lv_tableIn (tgt := 692) hx hb d_law_45 (by decide) (by decide) rfl (by decide) ?_
    exact cs_row hl0 hX hw hXs hbl hl h6 hL31 hcl (hS8 e8) kend
  by_cases e9 : xs (6 * j) &&& 15 = 9
  · rw [e9]
    refine lv_tableIn (tgt := 748) hx hb d_law_45 (by decide) (by decide) rfl (by decide) ?_
    exact cs_pixel hl0 hX hw hXs hbl hl h6 hL31 hcl (hS9 e9) kend
  by_cases e10 : xs (6 * j) &&& 15 = 10
  · rw [e10]
    refine lv_tableIn (tgt := 804) hx hb d_law_45 (by decide) (by decide) rfl (by decide) ?_
    exact cs_count hl0 hX hw hXs hbl hl h6 hL31 hcl (hS10 e10) kend
  by_cases e11 : xs (6 * j) &&& 15 = 11
  · rw [e11]
    refine lv_tableIn (tgt := 860) hx hb d_law_45 (by decide) (by decide) rfl (by decide) ?_
    exact cs_speed hl0 hX hw hXs hbl hl h6 hL31 hcl (hS11 e11) kend
  refine lv_tableOut (tgt := 925) hx hb d_law_45 (sw_out e0 e1 e2 e3 e4 e5 e6 e7 e8 e9 e10 e11) (by decide) ?_
  refine W.widen (k := law_c + j + 1) (n := law_s + 6 * j + 6) (by omega) (by omega) ?_
  exact kend _ _ _ _ _ _ _ (hSd ⟨e0, e1, e2, e3, e4, e5, e6, e7, e8, e9, e10, e11⟩) hw hl

/-- the law's end with 0 -/
def lw_Z0 (below : List Frame) : State → Prop := fun t => ∃ o, t.status = .running ∧ Ended t below o ∧ o = .returned (some (.int 0))
theorem lw_ret0 {p : Program} {l : Launch} {e : Env} {s : State} {m : MethodId} {below : List Frame} {meth : Method} {c : Code} {b : Nat} (hx : p.tables.exec = Jvm.exec) (hb : c.code = code) (hr : meth.sig.returnType = ret) (hlocks : meth.locks = false) {pc : Nat} {H : Heap} {ls : Array Slot} (hdg : decode code pc = .ok (.ireturn, 1)) : W p l e room_1 s m #[Value.ref b] below meth c H [] 601024 7293034 (lw_Z0 below) (F0 m pc ls [.int 0]) := by
  intro T hT X
  obtain ⟨fs, hret, hrun, hended, hW, hframe⟩ := X.leave (v := some (.int 0)) (hlocks := hlocks) (fun h => by rw [hr] at h; cases h)
  have hmeth' : T.vm.method? m = some meth := X.method'
  refine ⟨T.setFrames fs, ?_, .returned (some (.int 0)), hrun, hended, rfl⟩
  jvm_step X.here [X.here.top, hx, hb, hdg, hmeth', hr, ret, narrow_b0]
  (try refine ⟨rfl, ?_⟩); (try refine ⟨rfl, ?_⟩)
  first | (intro acts; rw [hret _ acts rfl rfl rfl]) | rw [hret _ _ rfl rfl rfl]
  exact Steps.refl _
/-- rom(0, 333, 1, 231), rom(0, 256, 1, 118), insert(0), run(1), run(1), count(1) -/
def rScr : List Int32 := [0, 0, 333, 1, 0, 231, 0, 0, 256, 1, 0, 118, 1, 0, 0, 0, 0, 0, 2, 1, 0, 0, 0, 0, 2, 1, 0, 0, 0, 0, 10, 1, 0, 0, 0, 0]
theorem st0 {M N : Mem} (h : K0 M N) : Step M N (fun k => rScr.getD (6 * 0 + k) 0) K1 :=
  ⟨fun _ => rf_rom1 h, fun h => absurd h (by decide), fun h => absurd h (by decide), fun h => absurd h (by decide), fun h => absurd h (by decide), fun h => absurd h (by decide), fun h => absurd h (by decide), fun h => absurd h (by decide), fun h => absurd h (by decide), fun h => absurd h (by decide), fun h => absurd h (by decide), fun h => absurd h (by decide), fun h => absurd (show (rScr.getD (6 * 0 + 0) 0) &&& 15 = 0 from by decide) h.1⟩
theorem st1 {M N : Mem} (h : K1 M N) : Step M N (fun k => rScr.getD (6 * 1 + k) 0) K2 :=
  ⟨fun _ => rf_rom2 h, fun h => absurd h (by decide), fun h => absurd h (by decide), fun h => absurd h (by decide), fun h => absurd h (by decide), fun h => absurd h (by decide), fun h => absurd h (by decide), fun h => absurd h (by decide), fun h => absurd h (by decide), fun h => absurd h (by decide), fun h => absurd h (by decide), fun h => absurd h (by decide), fun h => absurd (show (rScr.getD (6 * 1 + 0) 0) &&& 15 = 0 from by decide) h.1⟩
theorem st2 {M N : Mem} (h : K2 M N) : Step M N (fun k => rScr.getD (6 * 2 + k) 0) K3 :=
  ⟨fun h => absurd h (by decide), fun _ => rf_ins h, fun h => absurd h (by decide), fun h => absurd h (by decide), fun h => absurd h (by decide), fun h => absurd h (by decide), fun h => absurd h (by decide), fun h => absurd h (by decide), fun h => absurd h (by decide), fun h => absurd h (by decide), fun h => absurd h (by decide), fun h => absurd h (by decide), fun h => absurd (show (rScr.getD (6 * 2 + 0) 0) &&& 15 = 1 from by decide) h.2.1⟩
theorem st3 {M N : Mem} (h : K3 M N) : Step M N (fun k => rScr.getD (6 * 3 + k) 0) K4 :=
  ⟨fun h => absurd h (by decide), fun h => absurd h (by decide), fun _ => rf_halt h, fun h => absurd h (by decide), fun h => absurd h (by decide), fun h => absurd h (by decide), fun h => absurd h (by decide), fun h => absurd h (by decide), fun h => absurd h (by decide), fun h => absurd h (by decide), fun h => absurd h (by decide), fun h => absurd h (by decide), fun h => absurd (show (rScr.getD (6 * 3 + 0) 0) &&& 15 = 2 from by decide) h.2.2.1⟩
theorem st4 {M N : Mem} (h : K4 M N) : Step M N (fun k => rScr.getD (6 * 4 + k) 0) K5 :=
  ⟨fun h => absurd h (by decide), fun h => absurd h (by decide), fun _ => rf_idle h, fun h => absurd h (by decide), fun h => absurd h (by decide), fun h => absurd h (by decide), fun h => absurd h (by decide), fun h => absurd h (by decide), fun h => absurd h (by decide), fun h => absurd h (by decide), fun h => absurd h (by decide), fun h => absurd h (by decide), fun h => absurd (show (rScr.getD (6 * 4 + 0) 0) &&& 15 = 2 from by decide) h.2.2.1⟩
theorem ref_start {p : Program} {e : Env} {s : State} {m : MethodId} {below : List Frame} {meth : Method} {c : Code} (l : Launch) (hl0 : l.stackTraces = false) {b : Nat} (C0 : lw_At p s m meth c b 36 (fun j => rScr.getD j 0)) : W p l e room_1 s m #[Value.ref b] below meth c s.heap [] 0 0 (lw_Z0 below) (entryFrame m ([Value.ref b] : List Value).toArray 9) := by
  have t1 := so_T_startAnew (fun _ _ => 0) SC0
  have t2 := so_R_reset (fun _ _ => 0) SR0
  have C1 := C0
  obtain ⟨hx, hb, hr, hml, hown, hts, hXs, hbl, hlk, hgv⟩ := C0
  refine law_pro hx hb hml hown hts (fun w h => flat_of_before _ hgv w (show w ∈ flatC (Jvm.Cond.and given_1 narrow_1) from by simp only [flatC]; exact List.mem_append_right _ h)) (fun M => M = f_T_startAnew_m (fun _ _ => 0)) (fun N => N = f_R_reset_m (fun _ _ => 0)) (sp_T_startAnew _ _ t1.1 rfl) (sp_R_reset _ _ t2.1 rfl) ?_
  intro D ad ad2 cA cL cD tb o od M N H locs ls hX hw hq1 hq2 hl
  have k0 : K0 M N := by rw [hq1, hq2]; exact rf_start
  refine law_head (K := K1) (j := 0) hl0 hX C1 (by decide) (by decide) (st0 k0) hw hl (fun M N f g H locs ls k hw hl => ?_)
  refine law_head (K := K2) (j := 1) hl0 hX C1 (by decide) (by decide) (st1 k) hw hl (fun M N f g H locs ls k hw hl => ?_)
  refine law_head (K := K3) (j := 2) hl0 hX C1 (by decide) (by decide) (st2 k) hw hl (fun M N f g H locs ls k hw hl => ?_)
  refine law_head (K := K4) (j := 3) hl0 hX C1 (by decide) (by decide) (st3 k) hw hl (fun M N f g H locs ls k hw hl => ?_)
  refine law_head (K := K5) (j := 4) hl0 hX C1 (by decide) (by decide) (st4 k) hw hl (fun M N f g H locs ls k hw hl => ?_)
  refine law_sw (j := 5) hX C1 (by decide) (by decide) hw hl ?_
  rw [show (fun j => rScr.getD j 0) (6 * 5) &&& 15 = 10 from by decide]
  refine lv_tableIn (tgt := 804) hx hb d_law_45 (by decide) (by decide) rfl (by decide) ?_
  refine cs_count0 (q := 6 * 5) hl0 hX hw hXs hbl hl (by decide) (by decide) ⟨Nat.le_trans (m := 601024) (by unfold law_c; omega) (Nat.le_of_ble_eq_true rfl), Nat.le_trans (m := 7293034) (by unfold law_s; omega) (Nat.le_of_ble_eq_true rfl)⟩ (rf_count k) (fun M N f g H locs ls hw => ?_)
  refine va_forget (fun q h => hw.2.2.2 q h) ?_
  refine W.widen (k := 601024) (n := 7293034) (by unfold law_c; omega) (by unfold law_s; omega) ?_
  exact lw_ret0 hx hb hr hlk d_law_856
