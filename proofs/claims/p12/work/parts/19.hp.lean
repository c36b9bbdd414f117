def lct (k : Nat) : Nat := [13, 15, 21, 26, 58].getD k 0
set_option maxRecDepth 100000 in
theorem lk_0 : Cond.classLink "TileConsoleLaw" (lct 0) (xn 0) ∈ WA := WAm 375 (by decide +kernel) (by decide +kernel)
set_option maxRecDepth 100000 in
theorem lk_1 : Cond.classLink "TileConsoleLaw" (lct 1) (xn 1) ∈ WA := WAm 376 (by decide +kernel) (by decide +kernel)
set_option maxRecDepth 100000 in
theorem lk_2 : Cond.classLink "TileConsoleLaw" (lct 2) (xn 2) ∈ WA := WAm 474 (by decide +kernel) (by decide +kernel)
set_option maxRecDepth 100000 in
theorem lk_3 : Cond.classLink "TileConsoleLaw" (lct 3) (xn 3) ∈ WA := WAm 503 (by decide +kernel) (by decide +kernel)
set_option maxRecDepth 100000 in
theorem lk_4 : Cond.classLink "TileConsoleLaw" (lct 4) (xn 4) ∈ WA := WAm 879 (by decide +kernel) (by decide +kernel)
abbrev b_H_rom : ByteArray := method_3_code
def y_H_rom : MethodName := ⟨"TileConsoleLaw", "rom", "(LTileConsole;IIIJ[J)I"⟩
abbrev hh_H_rom : List (Nat × Nat × Nat × Nat) := [(0, 14, 17, 13), (0, 14, 21, 15)]
def ws_H_rom : List Cond := .codeWith y_H_rom b_H_rom 8 (some .int) hh_H_rom :: WA
def rm_H_rom : Room := { frames := 7, cells := 1, slots := 6, locals := 108 }
set_option maxRecDepth 100000 in
theorem wd_H_rom : Cond.codeWith y_H_rom b_H_rom 8 (some .int) hh_H_rom ∈ WA := WAm 374 rfl (by decide +kernel)
set_option maxRecDepth 100000 in
theorem ml_H_rom : Cond.methodLink "TileConsoleLaw" 7 y_T_rom ∈ WA := WAm 377 (by decide +kernel) (by decide +kernel)
theorem d_H_rom_0 : decode b_H_rom 0 = .ok (.aload 6, 2) := by decide +kernel
theorem d_H_rom_2 : decode b_H_rom 2 = .ok (.iconst 0, 1) := by decide +kernel
theorem d_H_rom_3 : decode b_H_rom 3 = .ok (.aload_n 0, 1) := by decide +kernel
theorem d_H_rom_4 : decode b_H_rom 4 = .ok (.iload_n 1, 1) := by decide +kernel
theorem d_H_rom_5 : decode b_H_rom 5 = .ok (.iload_n 2, 1) := by decide +kernel
theorem d_H_rom_6 : decode b_H_rom 6 = .ok (.iload_n 3, 1) := by decide +kernel
theorem d_H_rom_7 : decode b_H_rom 7 = .ok (.lload 4, 2) := by decide +kernel
theorem d_H_rom_9 : decode b_H_rom 9 = .ok (.invokevirtual 7, 3) := by decide +kernel
theorem d_H_rom_12 : decode b_H_rom 12 = .ok (.i2l, 1) := by decide +kernel
theorem d_H_rom_13 : decode b_H_rom 13 = .ok (.lastore, 1) := by decide +kernel
theorem d_H_rom_14 : decode b_H_rom 14 = .ok (.goto 11, 3) := by decide +kernel
theorem d_H_rom_17 : decode b_H_rom 17 = .ok (.astore 7, 2) := by decide +kernel
theorem d_H_rom_19 : decode b_H_rom 19 = .ok (.iconst 1, 1) := by decide +kernel
theorem d_H_rom_20 : decode b_H_rom 20 = .ok (.ireturn, 1) := by decide +kernel
theorem d_H_rom_21 : decode b_H_rom 21 = .ok (.astore 7, 2) := by decide +kernel
theorem d_H_rom_23 : decode b_H_rom 23 = .ok (.iconst 2, 1) := by decide +kernel
theorem d_H_rom_24 : decode b_H_rom 24 = .ok (.ireturn, 1) := by decide +kernel
theorem d_H_rom_25 : decode b_H_rom 25 = .ok (.iconst 0, 1) := by decide +kernel
theorem d_H_rom_26 : decode b_H_rom 26 = .ok (.ireturn, 1) := by decide +kernel
def hk_H_rom : Nat → Int32 := fun k => match k with | 0 => 1 | 1 => 2 | _ => 0
def hpc_H_rom : Nat → Nat := fun k => match k with | 0 => 17 | 1 => 21 | _ => 0
theorem hp_rom {l : Launch} {D : va_G} {cA cL : ClassId} {ad tb : Nat → Nat} (M : Mem) (p0 : Int32) (p1 : Int32) (p2 : Int32) (p3 : Int64) (o : Nat) (f : Nat → Int64) (Rh : Int32 → Mem → va_E → Prop)
    (h : Ct l y_T_rom ws_T_rom rm_T_rom D (ceC ad cA) cA tb [.ref (ad 0), .int p0, .int p1, .int p2, .long p3] M (QI (fun x M' => Rh 0 M' (.inl (cL, 1, .inr (.inl (vp_updL f 0 x.toInt64)))))) ∨ CtX l y_T_rom ws_T_rom rx_T_rom D (ceC ad cA) cA tb [.ref (ad 0), .int p0, .int p1, .int p2, .long p3] M (fun k M' => (k = 0 ∨ k = 1) ∧ Rh (hk_H_rom k) M' (.inl (cL, 1, .inr (.inl f))))) :
    Hp l y_H_rom ws_H_rom rm_H_rom D (ceC ad cA) cA cL .long tb [.ref (ad 0), .int p0, .int p1, .int p2, .long p3, .ref o] M (o, .inl (cL, 1, .inr (.inl f))) Rh := by
  refine Hp.of (cc := b_H_rom) (maxL := 8) (hh := hh_H_rom) ceC_fix (by decide) rfl rfl (Nat.le_of_ble_eq_true rfl) ?_
  intro p e s m args below meth c A QQ ls H locs hQQ hX htb hr hlk hw hO hl
  have hx := hX.1.1.1
  have hb := hX.1.1.2.1
  refine lv_aload hx hb d_H_rom_0 (lv_at hl 5 rfl) ?_
  refine lv_iconst hx hb d_H_rom_2 rfl ?_
  refine lv_aload_n hx hb d_H_rom_3 rfl (lv_at hl 0 rfl) ?_
  refine lv_iload_n hx hb d_H_rom_4 rfl (lv_at hl 1 rfl) ?_
  refine lv_iload_n hx hb d_H_rom_5 rfl (lv_at hl 2 rfl) ?_
  refine lv_iload_n hx hb d_H_rom_6 rfl (lv_at hl 3 rfl) ?_
  refine lv_lload hx hb d_H_rom_7 (lv_at hl 4 rfl) ?_
  rcases h with h | h
  · exact hf_l (j := 0) (tg := 25) (As := [.int p0, .int p1, .int p2, .long p3]) (b := ad 0) hX hQQ hr hlk hw hO h ml_H_rom mw_T_rom rfl ⟨rfl, rfl, Nat.le_of_ble_eq_true rfl, Nat.le_of_ble_eq_true rfl⟩ rfl rfl rfl hl.1 rfl d_H_rom_9 d_H_rom_12 d_H_rom_13 d_H_rom_14 (by decide) d_H_rom_25 d_H_rom_26 (fun x M' h => h)
  · refine hc_thr (j := 0) (E := 14) (hs := [(0, 17), (1, 21)]) (lct := lct) (hpf := hpc_H_rom) (rest := [.int 0, .ref o]) (As := [.int p0, .int p1, .int p2, .long p3]) (b := ad 0) hX.1 hX.2.1 hw h ml_H_rom mw_T_rom rfl ⟨rfl, rfl, Nat.le_of_ble_eq_true rfl, Nat.le_of_ble_eq_true rfl⟩ ⟨Nat.le_of_ble_eq_true rfl, Nat.le_of_ble_eq_true rfl⟩ rfl rfl rfl hl.1 rfl (Nat.le_of_ble_eq_true rfl) d_H_rom_9 htb (Nat.le_of_ble_eq_true rfl) ?_ ?_ ?_
    · intro k M' hk
      obtain ⟨hk, -⟩ := hk
      rcases hk with rfl | rfl
      · exact ⟨by decide, rfl⟩
      · exact ⟨by decide, rfl⟩
    · intro h hh
      simp only [List.mem_cons, List.not_mem_nil, or_false] at hh
      rcases hh with rfl | rfl
      · exact ⟨by decide, by decide, lk_0⟩
      · exact ⟨by decide, by decide, lk_1⟩
    · intro x k M' H' locs' hk hw' hkp
      obtain ⟨hPP, hDD⟩ := hX.kept hO hw' hkp
      obtain ⟨hk, hq⟩ := hk
      rcases hk with rfl | rfl
      · exact hf_e2 (pc := 17) (k := 1) hX hQQ hr hlk hPP hw'.2 hl (Nat.le_of_ble_eq_true rfl) rfl d_H_rom_17 d_H_rom_19 d_H_rom_20 hq
      · exact hf_e2 (pc := 21) (k := 2) hX hQQ hr hlk hPP hw'.2 hl (Nat.le_of_ble_eq_true rfl) rfl d_H_rom_21 d_H_rom_23 d_H_rom_24 hq
abbrev b_H_insert : ByteArray := method_4_code
def y_H_insert : MethodName := ⟨"TileConsoleLaw", "insert", "(LTileConsole;I[J)I"⟩
abbrev hh_H_insert : List (Nat × Nat × Nat × Nat) := [(0, 9, 12, 13), (0, 9, 15, 21)]
def ws_H_insert : List Cond := .codeWith y_H_insert b_H_insert 4 (some .int) hh_H_insert :: WA
def rm_H_insert : Room := { frames := 7, cells := 1, slots := 6, locals := 103 }
set_option maxRecDepth 100000 in
theorem wd_H_insert : Cond.codeWith y_H_insert b_H_insert 4 (some .int) hh_H_insert ∈ WA := WAm 473 rfl (by decide +kernel)
set_option maxRecDepth 100000 in
theorem ml_H_insert : Cond.methodLink "TileConsoleLaw" 17 y_T_insert ∈ WA := WAm 475 (by decide +kernel) (by decide +kernel)
theorem d_H_insert_0 : decode b_H_insert 0 = .ok (.aload_n 2, 1) := by decide +kernel
theorem d_H_insert_1 : decode b_H_insert 1 = .ok (.iconst 0, 1) := by decide +kernel
theorem d_H_insert_2 : decode b_H_insert 2 = .ok (.aload_n 0, 1) := by decide +kernel
theorem d_H_insert_3 : decode b_H_insert 3 = .ok (.iload_n 1, 1) := by decide +kernel
theorem d_H_insert_4 : decode b_H_insert 4 = .ok (.invokevirtual 17, 3) := by decide +kernel
theorem d_H_insert_7 : decode b_H_insert 7 = .ok (.i2l, 1) := by decide +kernel
theorem d_H_insert_8 : decode b_H_insert 8 = .ok (.lastore, 1) := by decide +kernel
theorem d_H_insert_9 : decode b_H_insert 9 = .ok (.goto 9, 3) := by decide +kernel
theorem d_H_insert_12 : decode b_H_insert 12 = .ok (.astore_n 3, 1) := by decide +kernel
theorem d_H_insert_13 : decode b_H_insert 13 = .ok (.iconst 1, 1) := by decide +kernel
theorem d_H_insert_14 : decode b_H_insert 14 = .ok (.ireturn, 1) := by decide +kernel
theorem d_H_insert_15 : decode b_H_insert 15 = .ok (.astore_n 3, 1) := by decide +kernel
theorem d_H_insert_16 : decode b_H_insert 16 = .ok (.iconst 2, 1) := by decide +kernel
theorem d_H_insert_17 : decode b_H_insert 17 = .ok (.ireturn, 1) := by decide +kernel
theorem d_H_insert_18 : decode b_H_insert 18 = .ok (.iconst 0, 1) := by decide +kernel
theorem d_H_insert_19 : decode b_H_insert 19 = .ok (.ireturn, 1) := by decide +kernel
def hk_H_insert : Nat → Int32 := fun k => match k with | 0 => 1 | 2 => 2 | _ => 0
def hpc_H_insert : Nat → Nat := fun k => match k with | 0 => 12 | 2 => 15 | _ => 0
theorem hp_insert {l : Launch} {D : va_G} {cA cL : ClassId} {ad tb : Nat → Nat} (M : Mem) (p0 : Int32) (o : Nat) (f : Nat → Int64) (Rh : Int32 → Mem → va_E → Prop)
    (h : Ct l y_T_insert ws_T_insert rm_T_insert D (ceC ad cA) cA tb [.ref (ad 0), .int p0] M (QI (fun x M' => Rh 0 M' (.inl (cL, 1, .inr (.inl (vp_updL f 0 x.toInt64)))))) ∨ CtX l y_T_insert ws_T_insert rx_T_insert D (ceC ad cA) cA tb [.ref (ad 0), .int p0] M (fun k M' => (k = 0 ∨ k = 2) ∧ Rh (hk_H_insert k) M' (.inl (cL, 1, .inr (.inl f))))) :
    Hp l y_H_insert ws_H_insert rm_H_insert D (ceC ad cA) cA cL .long tb [.ref (ad 0), .int p0, .ref o] M (o, .inl (cL, 1, .inr (.inl f))) Rh := by
  refine Hp.of (cc := b_H_insert) (maxL := 4) (hh := hh_H_insert) ceC_fix (by decide) rfl rfl (Nat.le_of_ble_eq_true rfl) ?_
  intro p e s m args below meth c A QQ ls H locs hQQ hX htb hr hlk hw hO hl
  have hx := hX.1.1.1
  have hb := hX.1.1.2.1
  refine lv_aload_n hx hb d_H_insert_0 rfl (lv_at hl 2 rfl) ?_
  refine lv_iconst hx hb d_H_insert_1 rfl ?_
  refine lv_aload_n hx hb d_H_insert_2 rfl (lv_at hl 0 rfl) ?_
  refine lv_iload_n hx hb d_H_insert_3 rfl (lv_at hl 1 rfl) ?_
  rcases h with h | h
  · exact hf_l (j := 0) (tg := 18) (As := [.int p0]) (b := ad 0) hX hQQ hr hlk hw hO h ml_H_insert mw_T_insert rfl ⟨rfl, rfl, Nat.le_of_ble_eq_true rfl, Nat.le_of_ble_eq_true rfl⟩ rfl rfl rfl hl.1 rfl d_H_insert_4 d_H_insert_7 d_H_insert_8 d_H_insert_9 (by decide) d_H_insert_18 d_H_insert_19 (fun x M' h => h)
  · refine hc_thr (j := 0) (E := 9) (hs := [(0, 12), (2, 15)]) (lct := lct) (hpf := hpc_H_insert) (rest := [.int 0, .ref o]) (As := [.int p0]) (b := ad 0) hX.1 hX.2.1 hw h ml_H_insert mw_T_insert rfl ⟨rfl, rfl, Nat.le_of_ble_eq_true rfl, Nat.le_of_ble_eq_true rfl⟩ ⟨Nat.le_of_ble_eq_true rfl, Nat.le_of_ble_eq_true rfl⟩ rfl rfl rfl hl.1 rfl (Nat.le_of_ble_eq_true rfl) d_H_insert_4 htb (Nat.le_of_ble_eq_true rfl) ?_ ?_ ?_
    · intro k M' hk
      obtain ⟨hk, -⟩ := hk
      rcases hk with rfl | rfl
      · exact ⟨by decide, rfl⟩
      · exact ⟨by decide, rfl⟩
    · intro h hh
      simp only [List.mem_cons, List.not_mem_nil, or_false] at hh
      rcases hh with rfl | rfl
      · exact ⟨by decide, by decide, lk_0⟩
      · exact ⟨by decide, by decide, lk_2⟩
    · intro x k M' H' locs' hk hw' hkp
      obtain ⟨hPP, hDD⟩ := hX.kept hO hw' hkp
      obtain ⟨hk, hq⟩ := hk
      rcases hk with rfl | rfl
      · exact hf_e (pc := 12) (k := 1) hX hQQ hr hlk hPP hw'.2 hl (Nat.le_of_ble_eq_true rfl) rfl d_H_insert_12 d_H_insert_13 d_H_insert_14 hq
      · exact hf_e (pc := 15) (k := 2) hX hQQ hr hlk hPP hw'.2 hl (Nat.le_of_ble_eq_true rfl) rfl d_H_insert_15 d_H_insert_16 d_H_insert_17 hq
abbrev b_H_run : ByteArray := method_5_code
def y_H_run : MethodName := ⟨"TileConsoleLaw", "run", "(LTileConsole;I[J)I"⟩
abbrev hh_H_run : List (Nat × Nat × Nat × Nat) := [(0, 9, 12, 13), (0, 9, 15, 21), (0, 9, 18, 26)]
def ws_H_run : List Cond := .codeWith y_H_run b_H_run 4 (some .int) hh_H_run :: WA
def rm_H_run : Room := { frames := 7, cells := 1, slots := 6, locals := 161 }
set_option maxRecDepth 100000 in
theorem wd_H_run : Cond.codeWith y_H_run b_H_run 4 (some .int) hh_H_run ∈ WA := WAm 502 rfl (by decide +kernel)
set_option maxRecDepth 100000 in
theorem ml_H_run : Cond.methodLink "TileConsoleLaw" 23 y_T_run ∈ WA := WAm 504 (by decide +kernel) (by decide +kernel)
theorem d_H_run_0 : decode b_H_run 0 = .ok (.aload_n 2, 1) := by decide +kernel
theorem d_H_run_1 : decode b_H_run 1 = .ok (.iconst 0, 1) := by decide +kernel
theorem d_H_run_2 : decode b_H_run 2 = .ok (.aload_n 0, 1) := by decide +kernel
theorem d_H_run_3 : decode b_H_run 3 = .ok (.iload_n 1, 1) := by decide +kernel
theorem d_H_run_4 : decode b_H_run 4 = .ok (.invokevirtual 23, 3) := by decide +kernel
theorem d_H_run_7 : decode b_H_run 7 = .ok (.i2l, 1) := by decide +kernel
theorem d_H_run_8 : decode b_H_run 8 = .ok (.lastore, 1) := by decide +kernel
theorem d_H_run_9 : decode b_H_run 9 = .ok (.goto 12, 3) := by decide +kernel
theorem d_H_run_12 : decode b_H_run 12 = .ok (.astore_n 3, 1) := by decide +kernel
theorem d_H_run_13 : decode b_H_run 13 = .ok (.iconst 1, 1) := by decide +kernel
theorem d_H_run_14 : decode b_H_run 14 = .ok (.ireturn, 1) := by decide +kernel
theorem d_H_run_15 : decode b_H_run 15 = .ok (.astore_n 3, 1) := by decide +kernel
theorem d_H_run_16 : decode b_H_run 16 = .ok (.iconst 2, 1) := by decide +kernel
theorem d_H_run_17 : decode b_H_run 17 = .ok (.ireturn, 1) := by decide +kernel
theorem d_H_run_18 : decode b_H_run 18 = .ok (.astore_n 3, 1) := by decide +kernel
theorem d_H_run_19 : decode b_H_run 19 = .ok (.iconst 3, 1) := by decide +kernel
theorem d_H_run_20 : decode b_H_run 20 = .ok (.ireturn, 1) := by decide +kernel
theorem d_H_run_21 : decode b_H_run 21 = .ok (.iconst 0, 1) := by decide +kernel
theorem d_H_run_22 : decode b_H_run 22 = .ok (.ireturn, 1) := by decide +kernel
def hk_H_run : Nat → Int32 := fun k => match k with | 0 => 1 | 2 => 2 | 3 => 3 | _ => 0
def hpc_H_run : Nat → Nat := fun k => match k with | 0 => 12 | 2 => 15 | 3 => 18 | _ => 0
theorem hp_run {l : Launch} {D : va_G} {cA cL : ClassId} {ad tb : Nat → Nat} (M : Mem) (p0 : Int32) (o : Nat) (f : Nat → Int64) (Rh : Int32 → Mem → va_E → Prop)
    (h : Ct l y_T_run ws_T_run rm_T_run D (ceC ad cA) cA tb [.ref (ad 0), .int p0] M (QI (fun x M' => Rh 0 M' (.inl (cL, 1, .inr (.inl (vp_updL f 0 x.toInt64)))))) ∨ CtX l y_T_run ws_T_run rx_T_run D (ceC ad cA) cA tb [.ref (ad 0), .int p0] M (fun k M' => (k = 0 ∨ k = 2 ∨ k = 3) ∧ Rh (hk_H_run k) M' (.inl (cL, 1, .inr (.inl f))))) :
    Hp l y_H_run ws_H_run rm_H_run D (ceC ad cA) cA cL .long tb [.ref (ad 0), .int p0, .ref o] M (o, .inl (cL, 1, .inr (.inl f))) Rh := by
  refine Hp.of (cc := b_H_run) (maxL := 4) (hh := hh_H_run) ceC_fix (by decide) rfl rfl (Nat.le_of_ble_eq_true rfl) ?_
  intro p e s m args below meth c A QQ ls H locs hQQ hX htb hr hlk hw hO hl
  have hx := hX.1.1.1
  have hb := hX.1.1.2.1
  refine lv_aload_n hx hb d_H_run_0 rfl (lv_at hl 2 rfl) ?_
  refine lv_iconst hx hb d_H_run_1 rfl ?_
  refine lv_aload_n hx hb d_H_run_2 rfl (lv_at hl 0 rfl) ?_
  refine lv_iload_n hx hb d_H_run_3 rfl (lv_at hl 1 rfl) ?_
  rcases h with h | h
  · exact hf_l (j := 0) (tg := 21) (As := [.int p0]) (b := ad 0) hX hQQ hr hlk hw hO h ml_H_run mw_T_run rfl ⟨rfl, rfl, Nat.le_of_ble_eq_true rfl, Nat.le_of_ble_eq_true rfl⟩ rfl rfl rfl hl.1 rfl d_H_run_4 d_H_run_7 d_H_run_8 d_H_run_9 (by decide) d_H_run_21 d_H_run_22 (fun x M' h => h)
  · refine hc_thr (j := 0) (E := 9) (hs := [(0, 12), (2, 15), (3, 18)]) (lct := lct) (hpf := hpc_H_run) (rest := [.int 0, .ref o]) (As := [.int p0]) (b := ad 0) hX.1 hX.2.1 hw h ml_H_run mw_T_run rfl ⟨rfl, rfl, Nat.le_of_ble_eq_true rfl, Nat.le_of_ble_eq_true rfl⟩ ⟨Nat.le_of_ble_eq_true rfl, Nat.le_of_ble_eq_true rfl⟩ rfl rfl rfl hl.1 rfl (Nat.le_of_ble_eq_true rfl) d_H_run_4 htb (Nat.le_of_ble_eq_true rfl) ?_ ?_ ?_
    · intro k M' hk
      obtain ⟨hk, -⟩ := hk
      rcases hk with rfl | rfl | rfl
      · exact ⟨by decide, rfl⟩
      · exact ⟨by decide, rfl⟩
      · exact ⟨by decide, rfl⟩
    · intro h hh
      simp only [List.mem_cons, List.not_mem_nil, or_false] at hh
      rcases hh with rfl | rfl | rfl
      · exact ⟨by decide, by decide, lk_0⟩
      · exact ⟨by decide, by decide, lk_2⟩
      · exact ⟨by decide, by decide, lk_3⟩
    · intro x k M' H' locs' hk hw' hkp
      obtain ⟨hPP, hDD⟩ := hX.kept hO hw' hkp
      obtain ⟨hk, hq⟩ := hk
      rcases hk with rfl | rfl | rfl
      · exact hf_e (pc := 12) (k := 1) hX hQQ hr hlk hPP hw'.2 hl (Nat.le_of_ble_eq_true rfl) rfl d_H_run_12 d_H_run_13 d_H_run_14 hq
      · exact hf_e (pc := 15) (k := 2) hX hQQ hr hlk hPP hw'.2 hl (Nat.le_of_ble_eq_true rfl) rfl d_H_run_15 d_H_run_16 d_H_run_17 hq
      · exact hf_e (pc := 18) (k := 3) hX hQQ hr hlk hPP hw'.2 hl (Nat.le_of_ble_eq_true rfl) rfl d_H_run_18 d_H_run_19 d_H_run_20 hq
abbrev b_H_set : ByteArray := method_6_code
def y_H_set : MethodName := ⟨"TileConsoleLaw", "set", "(LTileConsole;II[J)I"⟩
abbrev hh_H_set : List (Nat × Nat × Nat × Nat) := [(0, 10, 13, 13)]
def ws_H_set : List Cond := .codeWith y_H_set b_H_set 5 (some .int) hh_H_set :: WA
def rm_H_set : Room := { frames := 7, cells := 1, slots := 6, locals := 105 }
set_option maxRecDepth 100000 in
theorem wd_H_set : Cond.codeWith y_H_set b_H_set 5 (some .int) hh_H_set ∈ WA := WAm 765 rfl (by decide +kernel)
set_option maxRecDepth 100000 in
theorem ml_H_set : Cond.methodLink "TileConsoleLaw" 28 y_T_set ∈ WA := WAm 766 (by decide +kernel) (by decide +kernel)
theorem d_H_set_0 : decode b_H_set 0 = .ok (.aload_n 3, 1) := by decide +kernel
theorem d_H_set_1 : decode b_H_set 1 = .ok (.iconst 0, 1) := by decide +kernel
theorem d_H_set_2 : decode b_H_set 2 = .ok (.aload_n 0, 1) := by decide +kernel
theorem d_H_set_3 : decode b_H_set 3 = .ok (.iload_n 1, 1) := by decide +kernel
theorem d_H_set_4 : decode b_H_set 4 = .ok (.iload_n 2, 1) := by decide +kernel
theorem d_H_set_5 : decode b_H_set 5 = .ok (.invokevirtual 28, 3) := by decide +kernel
theorem d_H_set_8 : decode b_H_set 8 = .ok (.i2l, 1) := by decide +kernel
theorem d_H_set_9 : decode b_H_set 9 = .ok (.lastore, 1) := by decide +kernel
theorem d_H_set_10 : decode b_H_set 10 = .ok (.goto 7, 3) := by decide +kernel
theorem d_H_set_13 : decode b_H_set 13 = .ok (.astore 4, 2) := by decide +kernel
theorem d_H_set_15 : decode b_H_set 15 = .ok (.iconst 1, 1) := by decide +kernel
theorem d_H_set_16 : decode b_H_set 16 = .ok (.ireturn, 1) := by decide +kernel
theorem d_H_set_17 : decode b_H_set 17 = .ok (.iconst 0, 1) := by decide +kernel
theorem d_H_set_18 : decode b_H_set 18 = .ok (.ireturn, 1) := by decide +kernel
def hk_H_set : Nat → Int32 := fun k => match k with | 0 => 1 | _ => 0
def hpc_H_set : Nat → Nat := fun k => match k with | 0 => 13 | _ => 0
theorem hp_set {l : Launch} {D : va_G} {cA cL : ClassId} {ad tb : Nat → Nat} (M : Mem) (p0 : Int32) (p1 : Int32) (o : Nat) (f : Nat → Int64) (Rh : Int32 → Mem → va_E → Prop)
    (h : Ct l y_T_set ws_T_set rm_T_set D (ceC ad cA) cA tb [.ref (ad 0), .int p0, .int p1] M (QI (fun x M' => Rh 0 M' (.inl (cL, 1, .inr (.inl (vp_updL f 0 x.toInt64)))))) ∨ CtX l y_T_set ws_T_set rx_T_set D (ceC ad cA) cA tb [.ref (ad 0), .int p0, .int p1] M (fun k M' => (k = 0) ∧ Rh (hk_H_set k) M' (.inl (cL, 1, .inr (.inl f))))) :
    Hp l y_H_set ws_H_set rm_H_set D (ceC ad cA) cA cL .long tb [.ref (ad 0), .int p0, .int p1, .ref o] M (o, .inl (cL, 1, .inr (.inl f))) Rh := by
  refine Hp.of (cc := b_H_set) (maxL := 5) (hh := hh_H_set) ceC_fix (by decide) rfl rfl (Nat.le_of_ble_eq_true rfl) ?_
  intro p e s m args below meth c A QQ ls H locs hQQ hX htb hr hlk hw hO hl
  have hx := hX.1.1.1
  have hb := hX.1.1.2.1
  refine lv_aload_n hx hb d_H_set_0 rfl (lv_at hl 3 rfl) ?_
  refine lv_iconst hx hb d_H_set_1 rfl ?_
  refine lv_aload_n hx hb d_H_set_2 rfl (lv_at hl 0 rfl) ?_
  refine lv_iload_n hx hb d_H_set_3 rfl (lv_at hl 1 rfl) ?_
  refine lv_iload_n hx hb d_H_set_4 rfl (lv_at hl 2 rfl) ?_
  rcases h with h | h
  · exact hf_l (j := 0) (tg := 17) (As := [.int p0, .int p1]) (b := ad 0) hX hQQ hr hlk hw hO h ml_H_set mw_T_set rfl ⟨rfl, rfl, Nat.le_of_ble_eq_true rfl, Nat.le_of_ble_eq_true rfl⟩ rfl rfl rfl hl.1 rfl d_H_set_5 d_H_set_8 d_H_set_9 d_H_set_10 (by decide) d_H_set_17 d_H_set_18 (fun x M' h => h)
  · refine hc_thr (j := 0) (E := 10) (hs := [(0, 13)]) (lct := lct) (hpf := hpc_H_set) (rest := [.int 0, .ref o]) (As := [.int p0, .int p1]) (b := ad 0) hX.1 hX.2.1 hw h ml_H_set mw_T_set rfl ⟨rfl, rfl, Nat.le_of_ble_eq_true rfl, Nat.le_of_ble_eq_true rfl⟩ ⟨Nat.le_of_ble_eq_true rfl, Nat.le_of_ble_eq_true rfl⟩ rfl rfl rfl hl.1 rfl (Nat.le_of_ble_eq_true rfl) d_H_set_5 htb (Nat.le_of_ble_eq_true rfl) ?_ ?_ ?_
    · intro k M' hk
      obtain ⟨hk, -⟩ := hk
      subst hk
      exact ⟨by decide, rfl⟩
    · intro h hh
      simp only [List.mem_cons, List.not_mem_nil, or_false] at hh
      subst hh
      exact ⟨by decide, by decide, lk_0⟩
    · intro x k M' H' locs' hk hw' hkp
      obtain ⟨hPP, hDD⟩ := hX.kept hO hw' hkp
      obtain ⟨hk, hq⟩ := hk
      subst hk
      exact hf_e2 (pc := 13) (k := 1) hX hQQ hr hlk hPP hw'.2 hl (Nat.le_of_ble_eq_true rfl) rfl d_H_set_13 d_H_set_15 d_H_set_16 hq
abbrev b_H_register : ByteArray := method_7_code
def y_H_register : MethodName := ⟨"TileConsoleLaw", "register", "(LTileConsole;I[J)I"⟩
abbrev hh_H_register : List (Nat × Nat × Nat × Nat) := [(0, 9, 12, 13)]
def ws_H_register : List Cond := .codeWith y_H_register b_H_register 4 (some .int) hh_H_register :: WA
def rm_H_register : Room := { frames := 7, cells := 1, slots := 6, locals := 103 }
set_option maxRecDepth 100000 in
theorem wd_H_register : Cond.codeWith y_H_register b_H_register 4 (some .int) hh_H_register ∈ WA := WAm 783 rfl (by decide +kernel)
set_option maxRecDepth 100000 in
theorem ml_H_register : Cond.methodLink "TileConsoleLaw" 32 y_T_register ∈ WA := WAm 784 (by decide +kernel) (by decide +kernel)
theorem d_H_register_0 : decode b_H_register 0 = .ok (.aload_n 2, 1) := by decide +kernel
theorem d_H_register_1 : decode b_H_register 1 = .ok (.iconst 0, 1) := by decide +kernel
theorem d_H_register_2 : decode b_H_register 2 = .ok (.aload_n 0, 1) := by decide +kernel
theorem d_H_register_3 : decode b_H_register 3 = .ok (.iload_n 1, 1) := by decide +kernel
theorem d_H_register_4 : decode b_H_register 4 = .ok (.invokevirtual 32, 3) := by decide +kernel
theorem d_H_register_7 : decode b_H_register 7 = .ok (.i2l, 1) := by decide +kernel
theorem d_H_register_8 : decode b_H_register 8 = .ok (.lastore, 1) := by decide +kernel
theorem d_H_register_9 : decode b_H_register 9 = .ok (.goto 6, 3) := by decide +kernel
theorem d_H_register_12 : decode b_H_register 12 = .ok (.astore_n 3, 1) := by decide +kernel
theorem d_H_register_13 : decode b_H_register 13 = .ok (.iconst 1, 1) := by decide +kernel
theorem d_H_register_14 : decode b_H_register 14 = .ok (.ireturn, 1) := by decide +kernel
theorem d_H_register_15 : decode b_H_register 15 = .ok (.iconst 0, 1) := by decide +kernel
theorem d_H_register_16 : decode b_H_register 16 = .ok (.ireturn, 1) := by decide +kernel
def hk_H_register : Nat → Int32 := fun k => match k with | 0 => 1 | _ => 0
def hpc_H_register : Nat → Nat := fun k => match k with | 0 => 12 | _ => 0
theorem hp_register {l : Launch} {D : va_G} {cA cL : ClassId} {ad tb : Nat → Nat} (M : Mem) (p0 : Int32) (o : Nat) (f : Nat → Int64) (Rh : Int32 → Mem → va_E → Prop)
    (h : Ct l y_T_register ws_T_register rm_T_register D (ceC ad cA) cA tb [.ref (ad 0), .int p0] M (QI (fun x M' => Rh 0 M' (.inl (cL, 1, .inr (.inl (vp_updL f 0 x.toInt64)))))) ∨ CtX l y_T_register ws_T_register rx_T_register D (ceC ad cA) cA tb [.ref (ad 0), .int p0] M (fun k M' => (k = 0) ∧ Rh (hk_H_register k) M' (.inl (cL, 1, .inr (.inl f))))) :
    Hp l y_H_register ws_H_register rm_H_register D (ceC ad cA) cA cL .long tb [.ref (ad 0), .int p0, .ref o] M (o, .inl (cL, 1, .inr (.inl f))) Rh := by
  refine Hp.of (cc := b_H_register) (maxL := 4) (hh := hh_H_register) ceC_fix (by decide) rfl rfl (Nat.le_of_ble_eq_true rfl) ?_
  intro p e s m args below meth c A QQ ls H locs hQQ hX htb hr hlk hw hO hl
  have hx := hX.1.1.1
  have hb := hX.1.1.2.1
  refine lv_aload_n hx hb d_H_register_0 rfl (lv_at hl 2 rfl) ?_
  refine lv_iconst hx hb d_H_register_1 rfl ?_
  refine lv_aload_n hx hb d_H_register_2 rfl (lv_at hl 0 rfl) ?_
  refine lv_iload_n hx hb d_H_register_3 rfl (lv_at hl 1 rfl) ?_
  rcases h with h | h
  · exact hf_l (j := 0) (tg := 15) (As := [.int p0]) (b := ad 0) hX hQQ hr hlk hw hO h ml_H_register mw_T_register rfl ⟨rfl, rfl, Nat.le_of_ble_eq_true rfl, Nat.le_of_ble_eq_true rfl⟩ rfl rfl rfl hl.1 rfl d_H_register_4 d_H_register_7 d_H_register_8 d_H_register_9 (by decide) d_H_register_15 d_H_register_16 (fun x M' h => h)
  · refine hc_thr (j := 0) (E := 9) (hs := [(0, 12)]) (lct := lct) (hpf := hpc_H_register) (rest := [.int 0, .ref o]) (As := [.int p0]) (b := ad 0) hX.1 hX.2.1 hw h ml_H_register mw_T_register rfl ⟨rfl, rfl, Nat.le_of_ble_eq_true rfl, Nat.le_of_ble_eq_true rfl⟩ ⟨Nat.le_of_ble_eq_true rfl, Nat.le_of_ble_eq_true rfl⟩ rfl rfl rfl hl.1 rfl (Nat.le_of_ble_eq_true rfl) d_H_register_4 htb (Nat.le_of_ble_eq_true rfl) ?_ ?_ ?_
    · intro k M' hk
      obtain ⟨hk, -⟩ := hk
      subst hk
      exact ⟨by decide, rfl⟩
    · intro h hh
      simp only [List.mem_cons, List.not_mem_nil, or_false] at hh
      subst hh
      exact ⟨by decide, by decide, lk_0⟩
    · intro x k M' H' locs' hk hw' hkp
      obtain ⟨hPP, hDD⟩ := hX.kept hO hw' hkp
      obtain ⟨hk, hq⟩ := hk
      subst hk
      exact hf_e (pc := 12) (k := 1) hX hQQ hr hlk hPP hw'.2 hl (Nat.le_of_ble_eq_true rfl) rfl d_H_register_12 d_H_register_13 d_H_register_14 hq
abbrev b_H_read : ByteArray := method_8_code
def y_H_read : MethodName := ⟨"TileConsoleLaw", "read", "(LTileConsole;I[J)I"⟩
abbrev hh_H_read : List (Nat × Nat × Nat × Nat) := [(0, 9, 12, 13)]
def ws_H_read : List Cond := .codeWith y_H_read b_H_read 4 (some .int) hh_H_read :: WA
def rm_H_read : Room := { frames := 7, cells := 1, slots := 6, locals := 103 }
set_option maxRecDepth 100000 in
theorem wd_H_read : Cond.codeWith y_H_read b_H_read 4 (some .int) hh_H_read ∈ WA := WAm 790 rfl (by decide +kernel)
set_option maxRecDepth 100000 in
theorem ml_H_read : Cond.methodLink "TileConsoleLaw" 35 y_T_read ∈ WA := WAm 791 (by decide +kernel) (by decide +kernel)
theorem d_H_read_0 : decode b_H_read 0 = .ok (.aload_n 2, 1) := by decide +kernel
theorem d_H_read_1 : decode b_H_read 1 = .ok (.iconst 0, 1) := by decide +kernel
theorem d_H_read_2 : decode b_H_read 2 = .ok (.aload_n 0, 1) := by decide +kernel
theorem d_H_read_3 : decode b_H_read 3 = .ok (.iload_n 1, 1) := by decide +kernel
theorem d_H_read_4 : decode b_H_read 4 = .ok (.invokevirtual 35, 3) := by decide +kernel
theorem d_H_read_7 : decode b_H_read 7 = .ok (.i2l, 1) := by decide +kernel
theorem d_H_read_8 : decode b_H_read 8 = .ok (.lastore, 1) := by decide +kernel
theorem d_H_read_9 : decode b_H_read 9 = .ok (.goto 6, 3) := by decide +kernel
theorem d_H_read_12 : decode b_H_read 12 = .ok (.astore_n 3, 1) := by decide +kernel
theorem d_H_read_13 : decode b_H_read 13 = .ok (.iconst 1, 1) := by decide +kernel
theorem d_H_read_14 : decode b_H_read 14 = .ok (.ireturn, 1) := by decide +kernel
theorem d_H_read_15 : decode b_H_read 15 = .ok (.iconst 0, 1) := by decide +kernel
theorem d_H_read_16 : decode b_H_read 16 = .ok (.ireturn, 1) := by decide +kernel
def hk_H_read : Nat → Int32 := fun k => match k with | 0 => 1 | _ => 0
def hpc_H_read : Nat → Nat := fun k => match k with | 0 => 12 | _ => 0
theorem hp_read {l : Launch} {D : va_G} {cA cL : ClassId} {ad tb : Nat → Nat} (M : Mem) (p0 : Int32) (o : Nat) (f : Nat → Int64) (Rh : Int32 → Mem → va_E → Prop)
    (h : Ct l y_T_read ws_T_read rm_T_read D (ceC ad cA) cA tb [.ref (ad 0), .int p0] M (QI (fun x M' => Rh 0 M' (.inl (cL, 1, .inr (.inl (vp_updL f 0 x.toInt64)))))) ∨ CtX l y_T_read ws_T_read rx_T_read D (ceC ad cA) cA tb [.ref (ad 0), .int p0] M (fun k M' => (k = 0) ∧ Rh (hk_H_read k) M' (.inl (cL, 1, .inr (.inl f))))) :
    Hp l y_H_read ws_H_read rm_H_read D (ceC ad cA) cA cL .long tb [.ref (ad 0), .int p0, .ref o] M (o, .inl (cL, 1, .inr (.inl f))) Rh := by
  refine Hp.of (cc := b_H_read) (maxL := 4) (hh := hh_H_read) ceC_fix (by decide) rfl rfl (Nat.le_of_ble_eq_true rfl) ?_
  intro p e s m args below meth c A QQ ls H locs hQQ hX htb hr hlk hw hO hl
  have hx := hX.1.1.1
  have hb := hX.1.1.2.1
  refine lv_aload_n hx hb d_H_read_0 rfl (lv_at hl 2 rfl) ?_
  refine lv_iconst hx hb d_H_read_1 rfl ?_
  refine lv_aload_n hx hb d_H_read_2 rfl (lv_at hl 0 rfl) ?_
  refine lv_iload_n hx hb d_H_read_3 rfl (lv_at hl 1 rfl) ?_
  rcases h with h | h
  · exact hf_l (j := 0) (tg := 15) (As := [.int p0]) (b := ad 0) hX hQQ hr hlk hw hO h ml_H_read mw_T_read rfl ⟨rfl, rfl, Nat.le_of_ble_eq_true rfl, Nat.le_of_ble_eq_true rfl⟩ rfl rfl rfl hl.1 rfl d_H_read_4 d_H_read_7 d_H_read_8 d_H_read_9 (by decide) d_H_read_15 d_H_read_16 (fun x M' h => h)
  · refine hc_thr (j := 0) (E := 9) (hs := [(0, 12)]) (lct := lct) (hpf := hpc_H_read) (rest := [.int 0, .ref o]) (As := [.int p0]) (b := ad 0) hX.1 hX.2.1 hw h ml_H_read mw_T_read rfl ⟨rfl, rfl, Nat.le_of_ble_eq_true rfl, Nat.le_of_ble_eq_true rfl⟩ ⟨Nat.le_of_ble_eq_true rfl, Nat.le_of_ble_eq_true rfl⟩ rfl rfl rfl hl.1 rfl (Nat.le_of_ble_eq_true rfl) d_H_read_4 htb (Nat.le_of_ble_eq_true rfl) ?_ ?_ ?_
    · intro k M' hk
      obtain ⟨hk, -⟩ := hk
      subst hk
      exact ⟨by decide, rfl⟩
    · intro h hh
      simp only [List.mem_cons, List.not_mem_nil, or_false] at hh
      subst hh
      exact ⟨by decide, by decide, lk_0⟩
    · intro x k M' H' locs' hk hw' hkp
      obtain ⟨hPP, hDD⟩ := hX.kept hO hw' hkp
      obtain ⟨hk, hq⟩ := hk
      subst hk
      exact hf_e (pc := 12) (k := 1) hX hQQ hr hlk hPP hw'.2 hl (Nat.le_of_ble_eq_true rfl) rfl d_H_read_12 d_H_read_13 d_H_read_14 hq
abbrev b_H_write : ByteArray := method_9_code
def y_H_write : MethodName := ⟨"TileConsoleLaw", "write", "(LTileConsole;IIJ[J)I"⟩
abbrev hh_H_write : List (Nat × Nat × Nat × Nat) := [(0, 12, 15, 13)]
def ws_H_write : List Cond := .codeWith y_H_write b_H_write 7 (some .int) hh_H_write :: WA
def rm_H_write : Room := { frames := 7, cells := 1, slots := 6, locals := 107 }
set_option maxRecDepth 100000 in
theorem wd_H_write : Cond.codeWith y_H_write b_H_write 7 (some .int) hh_H_write ∈ WA := WAm 800 rfl (by decide +kernel)
set_option maxRecDepth 100000 in
theorem ml_H_write : Cond.methodLink "TileConsoleLaw" 38 y_T_write ∈ WA := WAm 801 (by decide +kernel) (by decide +kernel)
theorem d_H_write_0 : decode b_H_write 0 = .ok (.aload 5, 2) := by decide +kernel
theorem d_H_write_2 : decode b_H_write 2 = .ok (.iconst 0, 1) := by decide +kernel
theorem d_H_write_3 : decode b_H_write 3 = .ok (.aload_n 0, 1) := by decide +kernel
theorem d_H_write_4 : decode b_H_write 4 = .ok (.iload_n 1, 1) := by decide +kernel
theorem d_H_write_5 : decode b_H_write 5 = .ok (.iload_n 2, 1) := by decide +kernel
theorem d_H_write_6 : decode b_H_write 6 = .ok (.lload_n 3, 1) := by decide +kernel
theorem d_H_write_7 : decode b_H_write 7 = .ok (.invokevirtual 38, 3) := by decide +kernel
theorem d_H_write_10 : decode b_H_write 10 = .ok (.i2l, 1) := by decide +kernel
theorem d_H_write_11 : decode b_H_write 11 = .ok (.lastore, 1) := by decide +kernel
theorem d_H_write_12 : decode b_H_write 12 = .ok (.goto 7, 3) := by decide +kernel
theorem d_H_write_15 : decode b_H_write 15 = .ok (.astore 6, 2) := by decide +kernel
theorem d_H_write_17 : decode b_H_write 17 = .ok (.iconst 1, 1) := by decide +kernel
theorem d_H_write_18 : decode b_H_write 18 = .ok (.ireturn, 1) := by decide +kernel
theorem d_H_write_19 : decode b_H_write 19 = .ok (.iconst 0, 1) := by decide +kernel
theorem d_H_write_20 : decode b_H_write 20 = .ok (.ireturn, 1) := by decide +kernel
def hk_H_write : Nat → Int32 := fun k => match k with | 0 => 1 | _ => 0
def hpc_H_write : Nat → Nat := fun k => match k with | 0 => 15 | _ => 0
theorem hp_write {l : Launch} {D : va_G} {cA cL : ClassId} {ad tb : Nat → Nat} (M : Mem) (p0 : Int32) (p1 : Int32) (p2 : Int64) (o : Nat) (f : Nat → Int64) (Rh : Int32 → Mem → va_E → Prop)
    (h : Ct l y_T_write ws_T_write rm_T_write D (ceC ad cA) cA tb [.ref (ad 0), .int p0, .int p1, .long p2] M (QI (fun x M' => Rh 0 M' (.inl (cL, 1, .inr (.inl (vp_updL f 0 x.toInt64)))))) ∨ CtX l y_T_write ws_T_write rx_T_write D (ceC ad cA) cA tb [.ref (ad 0), .int p0, .int p1, .long p2] M (fun k M' => (k = 0) ∧ Rh (hk_H_write k) M' (.inl (cL, 1, .inr (.inl f))))) :
    Hp l y_H_write ws_H_write rm_H_write D (ceC ad cA) cA cL .long tb [.ref (ad 0), .int p0, .int p1, .long p2, .ref o] M (o, .inl (cL, 1, .inr (.inl f))) Rh := by
  refine Hp.of (cc := b_H_write) (maxL := 7) (hh := hh_H_write) ceC_fix (by decide) rfl rfl (Nat.le_of_ble_eq_true rfl) ?_
  intro p e s m args below meth c A QQ ls H locs hQQ hX htb hr hlk hw hO hl
  have hx := hX.1.1.1
  have hb := hX.1.1.2.1
  refine lv_aload hx hb d_H_write_0 (lv_at hl 4 rfl) ?_
  refine lv_iconst hx hb d_H_write_2 rfl ?_
  refine lv_aload_n hx hb d_H_write_3 rfl (lv_at hl 0 rfl) ?_
  refine lv_iload_n hx hb d_H_write_4 rfl (lv_at hl 1 rfl) ?_
  refine lv_iload_n hx hb d_H_write_5 rfl (lv_at hl 2 rfl) ?_
  refine lv_lload_n hx hb d_H_write_6 rfl (lv_at hl 3 rfl) ?_
  rcases h with h | h
  · exact hf_l (j := 0) (tg := 19) (As := [.int p0, .int p1, .long p2]) (b := ad 0) hX hQQ hr hlk hw hO h ml_H_write mw_T_write rfl ⟨rfl, rfl, Nat.le_of_ble_eq_true rfl, Nat.le_of_ble_eq_true rfl⟩ rfl rfl rfl hl.1 rfl d_H_write_7 d_H_write_10 d_H_write_11 d_H_write_12 (by decide) d_H_write_19 d_H_write_20 (fun x M' h => h)
  · refine hc_thr (j := 0) (E := 12) (hs := [(0, 15)]) (lct := lct) (hpf := hpc_H_write) (rest := [.int 0, .ref o]) (As := [.int p0, .int p1, .long p2]) (b := ad 0) hX.1 hX.2.1 hw h ml_H_write mw_T_write rfl ⟨rfl, rfl, Nat.le_of_ble_eq_true rfl, Nat.le_of_ble_eq_true rfl⟩ ⟨Nat.le_of_ble_eq_true rfl, Nat.le_of_ble_eq_true rfl⟩ rfl rfl rfl hl.1 rfl (Nat.le_of_ble_eq_true rfl) d_H_write_7 htb (Nat.le_of_ble_eq_true rfl) ?_ ?_ ?_
    · intro k M' hk
      obtain ⟨hk, -⟩ := hk
      subst hk
      exact ⟨by decide, rfl⟩
    · intro h hh
      simp only [List.mem_cons, List.not_mem_nil, or_false] at hh
      subst hh
      exact ⟨by decide, by decide, lk_0⟩
    · intro x k M' H' locs' hk hw' hkp
      obtain ⟨hPP, hDD⟩ := hX.kept hO hw' hkp
      obtain ⟨hk, hq⟩ := hk
      subst hk
      exact hf_e2 (pc := 15) (k := 1) hX hQQ hr hlk hPP hw'.2 hl (Nat.le_of_ble_eq_true rfl) rfl d_H_write_15 d_H_write_17 d_H_write_18 hq
abbrev b_H_keys : ByteArray := method_10_code
def y_H_keys : MethodName := ⟨"TileConsoleLaw", "keys", "(LTileConsole;I[J)I"⟩
abbrev hh_H_keys : List (Nat × Nat × Nat × Nat) := [(0, 9, 12, 13)]
def ws_H_keys : List Cond := .codeWith y_H_keys b_H_keys 4 (some .int) hh_H_keys :: WA
def rm_H_keys : Room := { frames := 7, cells := 1, slots := 6, locals := 103 }
set_option maxRecDepth 100000 in
theorem wd_H_keys : Cond.codeWith y_H_keys b_H_keys 4 (some .int) hh_H_keys ∈ WA := WAm 810 rfl (by decide +kernel)
set_option maxRecDepth 100000 in
theorem ml_H_keys : Cond.methodLink "TileConsoleLaw" 42 y_T_keys ∈ WA := WAm 811 (by decide +kernel) (by decide +kernel)
theorem d_H_keys_0 : decode b_H_keys 0 = .ok (.aload_n 2, 1) := by decide +kernel
theorem d_H_keys_1 : decode b_H_keys 1 = .ok (.iconst 0, 1) := by decide +kernel
theorem d_H_keys_2 : decode b_H_keys 2 = .ok (.aload_n 0, 1) := by decide +kernel
theorem d_H_keys_3 : decode b_H_keys 3 = .ok (.iload_n 1, 1) := by decide +kernel
theorem d_H_keys_4 : decode b_H_keys 4 = .ok (.invokevirtual 42, 3) := by decide +kernel
theorem d_H_keys_7 : decode b_H_keys 7 = .ok (.i2l, 1) := by decide +kernel
theorem d_H_keys_8 : decode b_H_keys 8 = .ok (.lastore, 1) := by decide +kernel
theorem d_H_keys_9 : decode b_H_keys 9 = .ok (.goto 6, 3) := by decide +kernel
theorem d_H_keys_12 : decode b_H_keys 12 = .ok (.astore_n 3, 1) := by decide +kernel
theorem d_H_keys_13 : decode b_H_keys 13 = .ok (.iconst 1, 1) := by decide +kernel
theorem d_H_keys_14 : decode b_H_keys 14 = .ok (.ireturn, 1) := by decide +kernel
theorem d_H_keys_15 : decode b_H_keys 15 = .ok (.iconst 0, 1) := by decide +kernel
theorem d_H_keys_16 : decode b_H_keys 16 = .ok (.ireturn, 1) := by decide +kernel
def hk_H_keys : Nat → Int32 := fun k => match k with | 0 => 1 | _ => 0
def hpc_H_keys : Nat → Nat := fun k => match k with | 0 => 12 | _ => 0
theorem hp_keys {l : Launch} {D : va_G} {cA cL : ClassId} {ad tb : Nat → Nat} (M : Mem) (p0 : Int32) (o : Nat) (f : Nat → Int64) (Rh : Int32 → Mem → va_E → Prop)
    (h : Ct l y_T_keys ws_T_keys rm_T_keys D (ceC ad cA) cA tb [.ref (ad 0), .int p0] M (QI (fun x M' => Rh 0 M' (.inl (cL, 1, .inr (.inl (vp_updL f 0 x.toInt64)))))) ∨ CtX l y_T_keys ws_T_keys rx_T_keys D (ceC ad cA) cA tb [.ref (ad 0), .int p0] M (fun k M' => (k = 0) ∧ Rh (hk_H_keys k) M' (.inl (cL, 1, .inr (.inl f))))) :
    Hp l y_H_keys ws_H_keys rm_H_keys D (ceC ad cA) cA cL .long tb [.ref (ad 0), .int p0, .ref o] M (o, .inl (cL, 1, .inr (.inl f))) Rh := by
  refine Hp.of (cc := b_H_keys) (maxL := 4) (hh := hh_H_keys) ceC_fix (by decide) rfl rfl (Nat.le_of_ble_eq_true rfl) ?_
  intro p e s m args below meth c A QQ ls H locs hQQ hX htb hr hlk hw hO hl
  have hx := hX.1.1.1
  have hb := hX.1.1.2.1
  refine lv_aload_n hx hb d_H_keys_0 rfl (lv_at hl 2 rfl) ?_
  refine lv_iconst hx hb d_H_keys_1 rfl ?_
  refine lv_aload_n hx hb d_H_keys_2 rfl (lv_at hl 0 rfl) ?_
  refine lv_iload_n hx hb d_H_keys_3 rfl (lv_at hl 1 rfl) ?_
  rcases h with h | h
  · exact hf_l (j := 0) (tg := 15) (As := [.int p0]) (b := ad 0) hX hQQ hr hlk hw hO h ml_H_keys mw_T_keys rfl ⟨rfl, rfl, Nat.le_of_ble_eq_true rfl, Nat.le_of_ble_eq_true rfl⟩ rfl rfl rfl hl.1 rfl d_H_keys_4 d_H_keys_7 d_H_keys_8 d_H_keys_9 (by decide) d_H_keys_15 d_H_keys_16 (fun x M' h => h)
  · refine hc_thr (j := 0) (E := 9) (hs := [(0, 12)]) (lct := lct) (hpf := hpc_H_keys) (rest := [.int 0, .ref o]) (As := [.int p0]) (b := ad 0) hX.1 hX.2.1 hw h ml_H_keys mw_T_keys rfl ⟨rfl, rfl, Nat.le_of_ble_eq_true rfl, Nat.le_of_ble_eq_true rfl⟩ ⟨Nat.le_of_ble_eq_true rfl, Nat.le_of_ble_eq_true rfl⟩ rfl rfl rfl hl.1 rfl (Nat.le_of_ble_eq_true rfl) d_H_keys_4 htb (Nat.le_of_ble_eq_true rfl) ?_ ?_ ?_
    · intro k M' hk
      obtain ⟨hk, -⟩ := hk
      subst hk
      exact ⟨by decide, rfl⟩
    · intro h hh
      simp only [List.mem_cons, List.not_mem_nil, or_false] at hh
      subst hh
      exact ⟨by decide, by decide, lk_0⟩
    · intro x k M' H' locs' hk hw' hkp
      obtain ⟨hPP, hDD⟩ := hX.kept hO hw' hkp
      obtain ⟨hk, hq⟩ := hk
      subst hk
      exact hf_e (pc := 12) (k := 1) hX hQQ hr hlk hPP hw'.2 hl (Nat.le_of_ble_eq_true rfl) rfl d_H_keys_12 d_H_keys_13 d_H_keys_14 hq
abbrev b_H_row : ByteArray := method_11_code
def y_H_row : MethodName := ⟨"TileConsoleLaw", "row", "(LTileConsole;I[J)I"⟩
abbrev hh_H_row : List (Nat × Nat × Nat × Nat) := [(0, 9, 12, 13)]
def ws_H_row : List Cond := .codeWith y_H_row b_H_row 4 (some .int) hh_H_row :: WA
def rm_H_row : Room := { frames := 7, cells := 1, slots := 6, locals := 123 }
set_option maxRecDepth 100000 in
theorem wd_H_row : Cond.codeWith y_H_row b_H_row 4 (some .int) hh_H_row ∈ WA := WAm 822 rfl (by decide +kernel)
set_option maxRecDepth 100000 in
theorem ml_H_row : Cond.methodLink "TileConsoleLaw" 45 y_T_row ∈ WA := WAm 823 (by decide +kernel) (by decide +kernel)
theorem d_H_row_0 : decode b_H_row 0 = .ok (.aload_n 2, 1) := by decide +kernel
theorem d_H_row_1 : decode b_H_row 1 = .ok (.iconst 0, 1) := by decide +kernel
theorem d_H_row_2 : decode b_H_row 2 = .ok (.aload_n 0, 1) := by decide +kernel
theorem d_H_row_3 : decode b_H_row 3 = .ok (.iload_n 1, 1) := by decide +kernel
theorem d_H_row_4 : decode b_H_row 4 = .ok (.invokevirtual 45, 3) := by decide +kernel
theorem d_H_row_7 : decode b_H_row 7 = .ok (.i2l, 1) := by decide +kernel
theorem d_H_row_8 : decode b_H_row 8 = .ok (.lastore, 1) := by decide +kernel
theorem d_H_row_9 : decode b_H_row 9 = .ok (.goto 6, 3) := by decide +kernel
theorem d_H_row_12 : decode b_H_row 12 = .ok (.astore_n 3, 1) := by decide +kernel
theorem d_H_row_13 : decode b_H_row 13 = .ok (.iconst 1, 1) := by decide +kernel
theorem d_H_row_14 : decode b_H_row 14 = .ok (.ireturn, 1) := by decide +kernel
theorem d_H_row_15 : decode b_H_row 15 = .ok (.iconst 0, 1) := by decide +kernel
theorem d_H_row_16 : decode b_H_row 16 = .ok (.ireturn, 1) := by decide +kernel
def hk_H_row : Nat → Int32 := fun k => match k with | 0 => 1 | _ => 0
def hpc_H_row : Nat → Nat := fun k => match k with | 0 => 12 | _ => 0
theorem hp_row {l : Launch} {D : va_G} {cA cL : ClassId} {ad tb : Nat → Nat} (M : Mem) (p0 : Int32) (o : Nat) (f : Nat → Int64) (Rh : Int32 → Mem → va_E → Prop)
    (h : Ct l y_T_row ws_T_row rm_T_row D (ceC ad cA) cA tb [.ref (ad 0), .int p0] M (QI (fun x M' => Rh 0 M' (.inl (cL, 1, .inr (.inl (vp_updL f 0 x.toInt64)))))) ∨ CtX l y_T_row ws_T_row rx_T_row D (ceC ad cA) cA tb [.ref (ad 0), .int p0] M (fun k M' => (k = 0) ∧ Rh (hk_H_row k) M' (.inl (cL, 1, .inr (.inl f))))) :
    Hp l y_H_row ws_H_row rm_H_row D (ceC ad cA) cA cL .long tb [.ref (ad 0), .int p0, .ref o] M (o, .inl (cL, 1, .inr (.inl f))) Rh := by
  refine Hp.of (cc := b_H_row) (maxL := 4) (hh := hh_H_row) ceC_fix (by decide) rfl rfl (Nat.le_of_ble_eq_true rfl) ?_
  intro p e s m args below meth c A QQ ls H locs hQQ hX htb hr hlk hw hO hl
  have hx := hX.1.1.1
  have hb := hX.1.1.2.1
  refine lv_aload_n hx hb d_H_row_0 rfl (lv_at hl 2 rfl) ?_
  refine lv_iconst hx hb d_H_row_1 rfl ?_
  refine lv_aload_n hx hb d_H_row_2 rfl (lv_at hl 0 rfl) ?_
  refine lv_iload_n hx hb d_H_row_3 rfl (lv_at hl 1 rfl) ?_
  rcases h with h | h
  · exact hf_l (j := 0) (tg := 15) (As := [.int p0]) (b := ad 0) hX hQQ hr hlk hw hO h ml_H_row mw_T_row rfl ⟨rfl, rfl, Nat.le_of_ble_eq_true rfl, Nat.le_of_ble_eq_true rfl⟩ rfl rfl rfl hl.1 rfl d_H_row_4 d_H_row_7 d_H_row_8 d_H_row_9 (by decide) d_H_row_15 d_H_row_16 (fun x M' h => h)
  · refine hc_thr (j := 0) (E := 9) (hs := [(0, 12)]) (lct := lct) (hpf := hpc_H_row) (rest := [.int 0, .ref o]) (As := [.int p0]) (b := ad 0) hX.1 hX.2.1 hw h ml_H_row mw_T_row rfl ⟨rfl, rfl, Nat.le_of_ble_eq_true rfl, Nat.le_of_ble_eq_true rfl⟩ ⟨Nat.le_of_ble_eq_true rfl, Nat.le_of_ble_eq_true rfl⟩ rfl rfl rfl hl.1 rfl (Nat.le_of_ble_eq_true rfl) d_H_row_4 htb (Nat.le_of_ble_eq_true rfl) ?_ ?_ ?_
    · intro k M' hk
      obtain ⟨hk, -⟩ := hk
      subst hk
      exact ⟨by decide, rfl⟩
    · intro h hh
      simp only [List.mem_cons, List.not_mem_nil, or_false] at hh
      subst hh
      exact ⟨by decide, by decide, lk_0⟩
    · intro x k M' H' locs' hk hw' hkp
      obtain ⟨hPP, hDD⟩ := hX.kept hO hw' hkp
      obtain ⟨hk, hq⟩ := hk
      subst hk
      exact hf_e (pc := 12) (k := 1) hX hQQ hr hlk hPP hw'.2 hl (Nat.le_of_ble_eq_true rfl) rfl d_H_row_12 d_H_row_13 d_H_row_14 hq
abbrev b_H_pixel : ByteArray := method_12_code
def y_H_pixel : MethodName := ⟨"TileConsoleLaw", "pixel", "(LTileConsole;I[J)I"⟩
abbrev hh_H_pixel : List (Nat × Nat × Nat × Nat) := [(0, 9, 12, 15)]
def ws_H_pixel : List Cond := .codeWith y_H_pixel b_H_pixel 4 (some .int) hh_H_pixel :: WA
def rm_H_pixel : Room := { frames := 7, cells := 1, slots := 6, locals := 103 }
set_option maxRecDepth 100000 in
theorem wd_H_pixel : Cond.codeWith y_H_pixel b_H_pixel 4 (some .int) hh_H_pixel ∈ WA := WAm 862 rfl (by decide +kernel)
set_option maxRecDepth 100000 in
theorem ml_H_pixel : Cond.methodLink "TileConsoleLaw" 48 y_T_pixel ∈ WA := WAm 863 (by decide +kernel) (by decide +kernel)
theorem d_H_pixel_0 : decode b_H_pixel 0 = .ok (.aload_n 2, 1) := by decide +kernel
theorem d_H_pixel_1 : decode b_H_pixel 1 = .ok (.iconst 0, 1) := by decide +kernel
theorem d_H_pixel_2 : decode b_H_pixel 2 = .ok (.aload_n 0, 1) := by decide +kernel
theorem d_H_pixel_3 : decode b_H_pixel 3 = .ok (.iload_n 1, 1) := by decide +kernel
theorem d_H_pixel_4 : decode b_H_pixel 4 = .ok (.invokevirtual 48, 3) := by decide +kernel
theorem d_H_pixel_7 : decode b_H_pixel 7 = .ok (.i2l, 1) := by decide +kernel
theorem d_H_pixel_8 : decode b_H_pixel 8 = .ok (.lastore, 1) := by decide +kernel
theorem d_H_pixel_9 : decode b_H_pixel 9 = .ok (.goto 6, 3) := by decide +kernel
theorem d_H_pixel_12 : decode b_H_pixel 12 = .ok (.astore_n 3, 1) := by decide +kernel
theorem d_H_pixel_13 : decode b_H_pixel 13 = .ok (.iconst 1, 1) := by decide +kernel
theorem d_H_pixel_14 : decode b_H_pixel 14 = .ok (.ireturn, 1) := by decide +kernel
theorem d_H_pixel_15 : decode b_H_pixel 15 = .ok (.iconst 0, 1) := by decide +kernel
theorem d_H_pixel_16 : decode b_H_pixel 16 = .ok (.ireturn, 1) := by decide +kernel
def hk_H_pixel : Nat → Int32 := fun k => match k with | 1 => 1 | _ => 0
def hpc_H_pixel : Nat → Nat := fun k => match k with | 1 => 12 | _ => 0
theorem hp_pixel {l : Launch} {D : va_G} {cA cL : ClassId} {ad tb : Nat → Nat} (M : Mem) (p0 : Int32) (o : Nat) (f : Nat → Int64) (Rh : Int32 → Mem → va_E → Prop)
    (h : Ct l y_T_pixel ws_T_pixel rm_T_pixel D (ceC ad cA) cA tb [.ref (ad 0), .int p0] M (QI (fun x M' => Rh 0 M' (.inl (cL, 1, .inr (.inl (vp_updL f 0 x.toInt64)))))) ∨ CtX l y_T_pixel ws_T_pixel rx_T_pixel D (ceC ad cA) cA tb [.ref (ad 0), .int p0] M (fun k M' => (k = 1) ∧ Rh (hk_H_pixel k) M' (.inl (cL, 1, .inr (.inl f))))) :
    Hp l y_H_pixel ws_H_pixel rm_H_pixel D (ceC ad cA) cA cL .long tb [.ref (ad 0), .int p0, .ref o] M (o, .inl (cL, 1, .inr (.inl f))) Rh := by
  refine Hp.of (cc := b_H_pixel) (maxL := 4) (hh := hh_H_pixel) ceC_fix (by decide) rfl rfl (Nat.le_of_ble_eq_true rfl) ?_
  intro p e s m args below meth c A QQ ls H locs hQQ hX htb hr hlk hw hO hl
  have hx := hX.1.1.1
  have hb := hX.1.1.2.1
  refine lv_aload_n hx hb d_H_pixel_0 rfl (lv_at hl 2 rfl) ?_
  refine lv_iconst hx hb d_H_pixel_1 rfl ?_
  refine lv_aload_n hx hb d_H_pixel_2 rfl (lv_at hl 0 rfl) ?_
  refine lv_iload_n hx hb d_H_pixel_3 rfl (lv_at hl 1 rfl) ?_
  rcases h with h | h
  · exact hf_l (j := 0) (tg := 15) (As := [.int p0]) (b := ad 0) hX hQQ hr hlk hw hO h ml_H_pixel mw_T_pixel rfl ⟨rfl, rfl, Nat.le_of_ble_eq_true rfl, Nat.le_of_ble_eq_true rfl⟩ rfl rfl rfl hl.1 rfl d_H_pixel_4 d_H_pixel_7 d_H_pixel_8 d_H_pixel_9 (by decide) d_H_pixel_15 d_H_pixel_16 (fun x M' h => h)
  · refine hc_thr (j := 0) (E := 9) (hs := [(1, 12)]) (lct := lct) (hpf := hpc_H_pixel) (rest := [.int 0, .ref o]) (As := [.int p0]) (b := ad 0) hX.1 hX.2.1 hw h ml_H_pixel mw_T_pixel rfl ⟨rfl, rfl, Nat.le_of_ble_eq_true rfl, Nat.le_of_ble_eq_true rfl⟩ ⟨Nat.le_of_ble_eq_true rfl, Nat.le_of_ble_eq_true rfl⟩ rfl rfl rfl hl.1 rfl (Nat.le_of_ble_eq_true rfl) d_H_pixel_4 htb (Nat.le_of_ble_eq_true rfl) ?_ ?_ ?_
    · intro k M' hk
      obtain ⟨hk, -⟩ := hk
      subst hk
      exact ⟨by decide, rfl⟩
    · intro h hh
      simp only [List.mem_cons, List.not_mem_nil, or_false] at hh
      subst hh
      exact ⟨by decide, by decide, lk_1⟩
    · intro x k M' H' locs' hk hw' hkp
      obtain ⟨hPP, hDD⟩ := hX.kept hO hw' hkp
      obtain ⟨hk, hq⟩ := hk
      subst hk
      exact hf_e (pc := 12) (k := 1) hX hQQ hr hlk hPP hw'.2 hl (Nat.le_of_ble_eq_true rfl) rfl d_H_pixel_12 d_H_pixel_13 d_H_pixel_14 hq
abbrev b_H_count : ByteArray := method_13_code
def y_H_count : MethodName := ⟨"TileConsoleLaw", "count", "(LTileConsole;I[J)I"⟩
abbrev hh_H_count : List (Nat × Nat × Nat × Nat) := [(0, 9, 12, 13)]
def ws_H_count : List Cond := .codeWith y_H_count b_H_count 4 (some .int) hh_H_count :: WA
def rm_H_count : Room := { frames := 7, cells := 1, slots := 6, locals := 103 }
set_option maxRecDepth 100000 in
theorem wd_H_count : Cond.codeWith y_H_count b_H_count 4 (some .int) hh_H_count ∈ WA := WAm 870 rfl (by decide +kernel)
set_option maxRecDepth 100000 in
theorem ml_H_count : Cond.methodLink "TileConsoleLaw" 51 y_T_count ∈ WA := WAm 871 (by decide +kernel) (by decide +kernel)
theorem d_H_count_0 : decode b_H_count 0 = .ok (.aload_n 2, 1) := by decide +kernel
theorem d_H_count_1 : decode b_H_count 1 = .ok (.iconst 0, 1) := by decide +kernel
theorem d_H_count_2 : decode b_H_count 2 = .ok (.aload_n 0, 1) := by decide +kernel
theorem d_H_count_3 : decode b_H_count 3 = .ok (.iload_n 1, 1) := by decide +kernel
theorem d_H_count_4 : decode b_H_count 4 = .ok (.invokevirtual 51, 3) := by decide +kernel
theorem d_H_count_7 : decode b_H_count 7 = .ok (.i2l, 1) := by decide +kernel
theorem d_H_count_8 : decode b_H_count 8 = .ok (.lastore, 1) := by decide +kernel
theorem d_H_count_9 : decode b_H_count 9 = .ok (.goto 6, 3) := by decide +kernel
theorem d_H_count_12 : decode b_H_count 12 = .ok (.astore_n 3, 1) := by decide +kernel
theorem d_H_count_13 : decode b_H_count 13 = .ok (.iconst 1, 1) := by decide +kernel
theorem d_H_count_14 : decode b_H_count 14 = .ok (.ireturn, 1) := by decide +kernel
theorem d_H_count_15 : decode b_H_count 15 = .ok (.iconst 0, 1) := by decide +kernel
theorem d_H_count_16 : decode b_H_count 16 = .ok (.ireturn, 1) := by decide +kernel
def hk_H_count : Nat → Int32 := fun k => match k with | 0 => 1 | _ => 0
def hpc_H_count : Nat → Nat := fun k => match k with | 0 => 12 | _ => 0
theorem hp_count {l : Launch} {D : va_G} {cA cL : ClassId} {ad tb : Nat → Nat} (M : Mem) (p0 : Int32) (o : Nat) (f : Nat → Int64) (Rh : Int32 → Mem → va_E → Prop)
    (h : Ct l y_T_count ws_T_count rm_T_count D (ceC ad cA) cA tb [.ref (ad 0), .int p0] M (QI (fun x M' => Rh 0 M' (.inl (cL, 1, .inr (.inl (vp_updL f 0 x.toInt64)))))) ∨ CtX l y_T_count ws_T_count rx_T_count D (ceC ad cA) cA tb [.ref (ad 0), .int p0] M (fun k M' => (k = 0) ∧ Rh (hk_H_count k) M' (.inl (cL, 1, .inr (.inl f))))) :
    Hp l y_H_count ws_H_count rm_H_count D (ceC ad cA) cA cL .long tb [.ref (ad 0), .int p0, .ref o] M (o, .inl (cL, 1, .inr (.inl f))) Rh := by
  refine Hp.of (cc := b_H_count) (maxL := 4) (hh := hh_H_count) ceC_fix (by decide) rfl rfl (Nat.le_of_ble_eq_true rfl) ?_
  intro p e s m args below meth c A QQ ls H locs hQQ hX htb hr hlk hw hO hl
  have hx := hX.1.1.1
  have hb := hX.1.1.2.1
  refine lv_aload_n hx hb d_H_count_0 rfl (lv_at hl 2 rfl) ?_
  refine lv_iconst hx hb d_H_count_1 rfl ?_
  refine lv_aload_n hx hb d_H_count_2 rfl (lv_at hl 0 rfl) ?_
  refine lv_iload_n hx hb d_H_count_3 rfl (lv_at hl 1 rfl) ?_
  rcases h with h | h
  · exact hf_l (j := 0) (tg := 15) (As := [.int p0]) (b := ad 0) hX hQQ hr hlk hw hO h ml_H_count mw_T_count rfl ⟨rfl, rfl, Nat.le_of_ble_eq_true rfl, Nat.le_of_ble_eq_true rfl⟩ rfl rfl rfl hl.1 rfl d_H_count_4 d_H_count_7 d_H_count_8 d_H_count_9 (by decide) d_H_count_15 d_H_count_16 (fun x M' h => h)
  · refine hc_thr (j := 0) (E := 9) (hs := [(0, 12)]) (lct := lct) (hpf := hpc_H_count) (rest := [.int 0, .ref o]) (As := [.int p0]) (b := ad 0) hX.1 hX.2.1 hw h ml_H_count mw_T_count rfl ⟨rfl, rfl, Nat.le_of_ble_eq_true rfl, Nat.le_of_ble_eq_true rfl⟩ ⟨Nat.le_of_ble_eq_true rfl, Nat.le_of_ble_eq_true rfl⟩ rfl rfl rfl hl.1 rfl (Nat.le_of_ble_eq_true rfl) d_H_count_4 htb (Nat.le_of_ble_eq_true rfl) ?_ ?_ ?_
    · intro k M' hk
      obtain ⟨hk, -⟩ := hk
      subst hk
      exact ⟨by decide, rfl⟩
    · intro h hh
      simp only [List.mem_cons, List.not_mem_nil, or_false] at hh
      subst hh
      exact ⟨by decide, by decide, lk_0⟩
    · intro x k M' H' locs' hk hw' hkp
      obtain ⟨hPP, hDD⟩ := hX.kept hO hw' hkp
      obtain ⟨hk, hq⟩ := hk
      subst hk
      exact hf_e (pc := 12) (k := 1) hX hQQ hr hlk hPP hw'.2 hl (Nat.le_of_ble_eq_true rfl) rfl d_H_count_12 d_H_count_13 d_H_count_14 hq
abbrev b_H_speed : ByteArray := method_14_code
def y_H_speed : MethodName := ⟨"TileConsoleLaw", "speed", "(LTileConsole;[D)I"⟩
abbrev hh_H_speed : List (Nat × Nat × Nat × Nat) := [(0, 7, 10, 58)]
def ws_H_speed : List Cond := .codeWith y_H_speed b_H_speed 3 (some .int) hh_H_speed :: WA
def rm_H_speed : Room := { frames := 7, cells := 1, slots := 6, locals := 102 }
set_option maxRecDepth 100000 in
theorem wd_H_speed : Cond.codeWith y_H_speed b_H_speed 3 (some .int) hh_H_speed ∈ WA := WAm 878 rfl (by decide +kernel)
set_option maxRecDepth 100000 in
theorem ml_H_speed : Cond.methodLink "TileConsoleLaw" 54 y_T_speed ∈ WA := WAm 880 (by decide +kernel) (by decide +kernel)
theorem d_H_speed_0 : decode b_H_speed 0 = .ok (.aload_n 1, 1) := by decide +kernel
theorem d_H_speed_1 : decode b_H_speed 1 = .ok (.iconst 0, 1) := by decide +kernel
theorem d_H_speed_2 : decode b_H_speed 2 = .ok (.aload_n 0, 1) := by decide +kernel
theorem d_H_speed_3 : decode b_H_speed 3 = .ok (.invokevirtual 54, 3) := by decide +kernel
theorem d_H_speed_6 : decode b_H_speed 6 = .ok (.dastore, 1) := by decide +kernel
theorem d_H_speed_7 : decode b_H_speed 7 = .ok (.goto 6, 3) := by decide +kernel
theorem d_H_speed_10 : decode b_H_speed 10 = .ok (.astore_n 2, 1) := by decide +kernel
theorem d_H_speed_11 : decode b_H_speed 11 = .ok (.iconst 1, 1) := by decide +kernel
theorem d_H_speed_12 : decode b_H_speed 12 = .ok (.ireturn, 1) := by decide +kernel
theorem d_H_speed_13 : decode b_H_speed 13 = .ok (.iconst 0, 1) := by decide +kernel
theorem d_H_speed_14 : decode b_H_speed 14 = .ok (.ireturn, 1) := by decide +kernel
def hk_H_speed : Nat → Int32 := fun k => match k with | 4 => 1 | _ => 0
def hpc_H_speed : Nat → Nat := fun k => match k with | 4 => 10 | _ => 0
theorem hp_speed {l : Launch} {D : va_G} {cA cL : ClassId} {ad tb : Nat → Nat} (M : Mem)  (o : Nat) (f : Nat → UInt64) (Rh : Int32 → Mem → va_E → Prop)
    (h : Ct l y_T_speed ws_T_speed rm_T_speed D (ceC ad cA) cA tb [.ref (ad 0)] M (QD (fun x M' => Rh 0 M' (.inl (cL, 1, .inr (.inr (.inr (.inl (vf_upd f 0 x)))))))) ∨ CtX l y_T_speed ws_T_speed rx_T_speed D (ceC ad cA) cA tb [.ref (ad 0)] M (fun k M' => (k = 4) ∧ Rh (hk_H_speed k) M' (.inl (cL, 1, .inr (.inr (.inr (.inl f))))))) :
    Hp l y_H_speed ws_H_speed rm_H_speed D (ceC ad cA) cA cL .double tb [.ref (ad 0), .ref o] M (o, .inl (cL, 1, .inr (.inr (.inr (.inl f))))) Rh := by
  refine Hp.of (cc := b_H_speed) (maxL := 3) (hh := hh_H_speed) ceC_fix (by decide) rfl rfl (Nat.le_of_ble_eq_true rfl) ?_
  intro p e s m args below meth c A QQ ls H locs hQQ hX htb hr hlk hw hO hl
  have hx := hX.1.1.1
  have hb := hX.1.1.2.1
  refine lv_aload_n hx hb d_H_speed_0 rfl (lv_at hl 1 rfl) ?_
  refine lv_iconst hx hb d_H_speed_1 rfl ?_
  refine lv_aload_n hx hb d_H_speed_2 rfl (lv_at hl 0 rfl) ?_
  rcases h with h | h
  · exact hf_d (j := 0) (tg := 13) (As := []) (b := ad 0) hX hQQ hr hlk hw hO h ml_H_speed mw_T_speed rfl ⟨rfl, rfl, Nat.le_of_ble_eq_true rfl, Nat.le_of_ble_eq_true rfl⟩ rfl rfl rfl hl.1 rfl d_H_speed_3 d_H_speed_6 d_H_speed_7 (by decide) d_H_speed_13 d_H_speed_14 (fun x M' h => h)
  · refine hc_thr (j := 0) (E := 7) (hs := [(4, 10)]) (lct := lct) (hpf := hpc_H_speed) (rest := [.int 0, .ref o]) (As := []) (b := ad 0) hX.1 hX.2.1 hw h ml_H_speed mw_T_speed rfl ⟨rfl, rfl, Nat.le_of_ble_eq_true rfl, Nat.le_of_ble_eq_true rfl⟩ ⟨Nat.le_of_ble_eq_true rfl, Nat.le_of_ble_eq_true rfl⟩ rfl rfl rfl hl.1 rfl (Nat.le_of_ble_eq_true rfl) d_H_speed_3 htb (Nat.le_of_ble_eq_true rfl) ?_ ?_ ?_
    · intro k M' hk
      obtain ⟨hk, -⟩ := hk
      subst hk
      exact ⟨by decide, rfl⟩
    · intro h hh
      simp only [List.mem_cons, List.not_mem_nil, or_false] at hh
      subst hh
      exact ⟨by decide, by decide, lk_4⟩
    · intro x k M' H' locs' hk hw' hkp
      obtain ⟨hPP, hDD⟩ := hX.kept hO hw' hkp
      obtain ⟨hk, hq⟩ := hk
      subst hk
      exact hf_e (pc := 10) (k := 1) hX hQQ hr hlk hPP hw'.2 hl (Nat.le_of_ble_eq_true rfl) rfl d_H_speed_10 d_H_speed_11 d_H_speed_12 hq
