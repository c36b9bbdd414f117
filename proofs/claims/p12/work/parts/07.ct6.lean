set_option maxHeartbeats 4000000 in
set_option maxRecDepth 100000 in
theorem ct_A_fill14 {l : Launch} {D : va_G} {cA : ClassId} {ad tb : Nat → Nat} (M0 : Mem) (a2 : Int32) (Q : Mem → Prop) (hk : wp_A_fill14 M0 a2 Q) : Ct l y_A_fill ws_A_fill rm_A_fill D (ceC ad cA) cA tb [.ref (ad 14), .int a2] M0 (QV Q) := by
  refine Ct.ofF (own := "java/util/Arrays") (cc := b_A_fill) (maxL := 4) (ret := none) ceC_fix (by decide) rfl rfl (Nat.le_of_ble_eq_true rfl) ?_
  intro p e s m args below meth c A QQ ls H locs hQQ hC hr hlk hw hl
  have hx := hC.1.1
  have hb := hC.1.2.1
  unfold wp_A_fill14 at hk
  have hl : lv_has ls 4 [(0, .ref (ad 14)), (1, .int a2)] := hl
  refine lv_iconst (v := 0) hx hb d_A_fill_0 (by decide) ?_
  refine lv_istore_n (lv' := [(2, .int (0 : Int32)), (0, .ref (ad 14)), (1, .int a2)]) hx hb d_A_fill_1 rfl hl (by decide) rfl (fun ls hl => ?_)
  refine lv_aload_n hx hb d_A_fill_2 rfl (lv_at hl 1 rfl) ?_
  refine al_14 hC hw d_A_fill_3 ?_
  refine lv_istore_n (lv' := [(3, .int (160 : Int32)), (2, .int (0 : Int32)), (0, .ref (ad 14)), (1, .int a2)]) hx hb d_A_fill_4 rfl hl (by decide) rfl (fun ls hl => ?_)
  have hl1 : ∀ (n : Nat) (H : Heap) (locs : List Loc) (ls : Array Slot) (x1 : Int32) (M2 : Mem), wp_A_fill14_l1 a2 Q n x1 M2 → Wd D (ceC ad cA) A s H locs M2 → lv_has ls 4 [(0, .ref (ad 14)), (1, .int a2), (2, .int x1), (3, .int (160 : Int32))] → W p l e rm_A_fill s m args below meth c H locs 0 0 QQ (F0 m 5 ls []) := by
    intro n
    induction n with
    | zero => intro H locs ls x1 M2 hk; exact False.elim hk
    | succ n1 ih1 =>
      intro H locs ls x1 M2 hk hw hl
      refine lv_iload_n hx hb d_A_fill_5 rfl (lv_at hl 2 rfl) ?_
      refine lv_iload_n hx hb d_A_fill_6 rfl (lv_at hl 3 rfl) ?_
      refine lv_icmp_ge (tgt := 20) hx hb d_A_fill_7 (by decide) (fun hc => ?_) (fun hc => ?_)
      · have hk := hk.1 hc
        exact rt_v hQQ hx hb hr hlk hw ⟨rfl, hk⟩ d_A_fill_20
      · have hk := hk.2 hc
        refine lv_aload_n hx hb d_A_fill_10 rfl (lv_at hl 0 rfl) ?_
        refine lv_iload_n hx hb d_A_fill_11 rfl (lv_at hl 2 rfl) ?_
        refine lv_iload_n hx hb d_A_fill_12 rfl (lv_at hl 1 rfl) ?_
        obtain ⟨hin, hk⟩ := hk
        refine st_14 hC hw hin rfl d_A_fill_13 (fun H locs M3 e_M3 hw => ?_)
        have hk := hk M3 e_M3
        obtain ⟨x4, e_x4⟩ : ∃ y : Int32, y = x1 + (1 : Int32) := ⟨_, rfl⟩
        have hk := hk x4 e_x4
        refine lv_iinc (v := x4) (lv' := [(2, .int x4), (0, .ref (ad 14)), (1, .int a2), (3, .int (160 : Int32))]) hx hb d_A_fill_14 hl (k := 2) rfl (by rw [e_x4]; rfl) (by decide) rfl (fun ls hl => ?_)
        refine lv_goto (tgt := 5) hx hb d_A_fill_17 (by decide) ?_
        exact ih1 _ _ _ _ _ hk hw (lv_sub hl [1, 2, 0, 3] rfl)
  obtain ⟨n, hk⟩ := hk
  exact hl1 n _ _ _ _ _ hk hw (lv_sub hl [2, 3, 1, 0] rfl)
set_option maxHeartbeats 4000000 in
set_option maxRecDepth 100000 in
theorem ct_S_make {l : Launch} {D : va_G} {cA : ClassId} {ad tb : Nat → Nat} (M0 : Mem) (a1 : Int32) (Q : Int32 → Mem → Prop) (hk : wp_S_make M0 a1 Q) : Ct l y_S_make ws_S_make rm_S_make D (ceC ad cA) cA tb [.ref (ad 4), .int a1] M0 (QI Q) := by
  refine Ct.of (own := "TileConsole$Screen") (cc := b_S_make) (maxL := 4) (ret := (some .int)) ceC_fix (by decide) rfl rfl (Nat.le_of_ble_eq_true rfl) ?_
  intro p e s m args below meth c A QQ ls H locs hQQ hC hr hlk hw hl
  have hx := hC.1.1
  have hb := hC.1.2.1
  unfold wp_S_make at hk
  have hl : lv_has ls 4 [(0, .ref (ad 4)), (1, .int a1)] := hl
  refine lv_aload_n hx hb d_S_make_0 rfl (lv_at hl 0 rfl) ?_
  refine lv_sipush (v := 128) hx hb d_S_make_1 (by decide) ?_
  refine cl_Vip (j := 4) (As := [.int (128 : Int32)]) hC hw (ct_S_has _ _ _ hk) m_138 mw_S_has rfl ⟨rfl, rfl, Nat.le_of_ble_eq_true rfl, Nat.le_of_ble_eq_true rfl⟩ rfl rfl rfl hl.1 rfl (Nat.le_of_ble_eq_true rfl) d_S_make_4 (fun H locs x1 hk hw => ?_)
  refine lv_if_ne (tgt := 20) hx hb d_S_make_7 (by decide) (fun hc => ?_) (fun hc => ?_)
  · have hk := hk.1 hc
    refine lv_aload_n hx hb d_S_make_20 rfl (lv_at hl 0 rfl) ?_
    refine g_S_aheadNumber hC hw m_135 d_S_make_21 ?_
    refine lv_iconst (v := 0) hx hb d_S_make_24 (by decide) ?_
    refine cl_Sv (As := [.ref (ad 14), .int (0 : Int32)]) hC hw (ct_A_fill14 _ _ _ hk) m_25 mw_A_fill rfl ⟨rfl, rfl, Nat.le_of_ble_eq_true rfl, Nat.le_of_ble_eq_true rfl⟩ rfl hl.1 rfl (Nat.le_of_ble_eq_true rfl) d_S_make_25 (fun H locs M2 hk hw => ?_)
    refine lv_aload_n hx hb d_S_make_28 rfl (lv_at hl 0 rfl) ?_
    refine lv_iconst (v := 2) hx hb d_S_make_29 (by decide) ?_
    refine cl_Vip (j := 4) (As := [.int (2 : Int32)]) hC hw (ct_S_has _ _ _ hk) m_138 mw_S_has rfl ⟨rfl, rfl, Nat.le_of_ble_eq_true rfl, Nat.le_of_ble_eq_true rfl⟩ rfl rfl rfl hl.1 rfl (Nat.le_of_ble_eq_true rfl) d_S_make_30 (fun H locs x3 hk hw => ?_)
    have hj1 : ∀ (H : Heap) (locs : List Loc) (ls : Array Slot) (M14 : Mem), wp_S_make_j1 a1 M14 Q → Wd D (ceC ad cA) A s H locs M14 → lv_has ls 4 [(0, .ref (ad 4)), (1, .int a1)] → W p l e rm_S_make s m args below meth c H locs 0 0 QQ (F0 m 41 ls []) := by
      intro H locs ls M14 hk hw hl
      unfold wp_S_make_j1 at hk
      refine lv_iconst (v := 0) hx hb d_S_make_41 (by decide) ?_
      refine lv_istore_n (lv' := [(2, .int (0 : Int32)), (0, .ref (ad 4)), (1, .int a1)]) hx hb d_S_make_42 rfl hl (by decide) rfl (fun ls hl => ?_)
      refine lv_iconst (v := 0) hx hb d_S_make_43 (by decide) ?_
      refine lv_istore_n (lv' := [(3, .int (0 : Int32)), (2, .int (0 : Int32)), (0, .ref (ad 4)), (1, .int a1)]) hx hb d_S_make_44 rfl hl (by decide) rfl (fun ls hl => ?_)
      have hl1 : ∀ (n : Nat) (H : Heap) (locs : List Loc) (ls : Array Slot) (x15 : Int32) (x16 : Int32) (M17 : Mem), wp_S_make_l1 a1 Q n x15 x16 M17 → Wd D (ceC ad cA) A s H locs M17 → lv_has ls 4 [(0, .ref (ad 4)), (1, .int a1), (2, .int x15), (3, .int x16)] → W p l e rm_S_make s m args below meth c H locs 0 0 QQ (F0 m 45 ls []) := by
        intro n
        induction n with
        | zero => intro H locs ls x15 x16 M17 hk; exact False.elim hk
        | succ n1 ih1 =>
          intro H locs ls x15 x16 M17 hk hw hl
          refine lv_iload_n hx hb d_S_make_45 rfl (lv_at hl 3 rfl) ?_
          refine lv_sipush (v := 160) hx hb d_S_make_46 (by decide) ?_
          refine lv_icmp_ge (tgt := 84) hx hb d_S_make_49 (by decide) (fun hc => ?_) (fun hc => ?_)
          · have hk := hk.1 hc
            refine lv_iload_n hx hb d_S_make_84 rfl (lv_at hl 2 rfl) ?_
            exact rt_i hQQ hx hb hr hlk hw ⟨_, rfl, hk⟩ d_S_make_85
          · have hk := hk.2 hc
            refine lv_aload_n hx hb d_S_make_52 rfl (lv_at hl 0 rfl) ?_
            refine g_S_pixels hC hw m_24 d_S_make_53 ?_
            refine lv_iload_n hx hb d_S_make_56 rfl (lv_at hl 3 rfl) ?_
            refine lv_aload_n hx hb d_S_make_57 rfl (lv_at hl 0 rfl) ?_
            refine lv_iload_n hx hb d_S_make_58 rfl (lv_at hl 3 rfl) ?_
            refine lv_aload_n hx hb d_S_make_59 rfl (lv_at hl 0 rfl) ?_
            refine lv_iload_n hx hb d_S_make_60 rfl (lv_at hl 3 rfl) ?_
            refine lv_iload_n hx hb d_S_make_61 rfl (lv_at hl 1 rfl) ?_
            refine cl_Vip (j := 4) (As := [.int x16, .int a1]) hC hw (ct_S_backgroundNumber _ _ _ _ hk) m_142 mw_S_backgroundNumber rfl ⟨rfl, rfl, Nat.le_of_ble_eq_true rfl, Nat.le_of_ble_eq_true rfl⟩ rfl rfl rfl hl.1 rfl (Nat.le_of_ble_eq_true rfl) d_S_make_62 (fun H locs x18 hk hw => ?_)
            refine cl_Vip (j := 4) (As := [.int x16, .int x18]) hC hw (ct_S_colour _ _ _ _ hk) m_143 mw_S_colour rfl ⟨rfl, rfl, Nat.le_of_ble_eq_true rfl, Nat.le_of_ble_eq_true rfl⟩ rfl rfl rfl hl.1 rfl (Nat.le_of_ble_eq_true rfl) d_S_make_65 (fun H locs x19 hk hw => ?_)
            obtain ⟨hin, hk⟩ := hk
            refine st_13 hC hw hin rfl d_S_make_68 (fun H locs M20 e_M20 hw => ?_)
            have hk := hk M20 e_M20
            refine lv_iload_n hx hb d_S_make_69 rfl (lv_at hl 2 rfl) ?_
            refine lv_aload_n hx hb d_S_make_70 rfl (lv_at hl 0 rfl) ?_
            refine g_S_pixels hC hw m_24 d_S_make_71 ?_
            refine lv_iload_n hx hb d_S_make_74 rfl (lv_at hl 3 rfl) ?_
            obtain ⟨hin, hk⟩ := hk
            refine ld_13 hC hw hin rfl d_S_make_75 ?_
            refine lv_iadd hx hb d_S_make_76 ?_
            refine lv_topi (fun x21 e_x21 => ?_)
            have hk := hk x21 e_x21
            refine lv_istore_n (lv' := [(2, .int x21), (0, .ref (ad 4)), (1, .int a1), (3, .int x16)]) hx hb d_S_make_77 rfl hl (by decide) rfl (fun ls hl => ?_)
            obtain ⟨x22, e_x22⟩ : ∃ y : Int32, y = x16 + (1 : Int32) := ⟨_, rfl⟩
            have hk := hk x22 e_x22
            refine lv_iinc (v := x22) (lv' := [(3, .int x22), (2, .int x21), (0, .ref (ad 4)), (1, .int a1)]) hx hb d_S_make_78 hl (k := 3) rfl (by rw [e_x22]; rfl) (by decide) rfl (fun ls hl => ?_)
            refine lv_goto (tgt := 45) hx hb d_S_make_81 (by decide) ?_
            exact ih1 _ _ _ _ _ _ hk hw (lv_sub hl [2, 3, 1, 0] rfl)
      obtain ⟨n, hk⟩ := hk
      exact hl1 n _ _ _ _ _ _ hk hw (lv_sub hl [2, 3, 1, 0] rfl)
    refine lv_if_eq (tgt := 41) hx hb d_S_make_33 (by decide) (fun hc => ?_) (fun hc => ?_)
    · have hk := hk.1 hc
      exact hj1 _ _ _ _ hk hw (lv_sub hl [0, 1] rfl)
    · have hk := hk.2 hc
      refine lv_aload_n hx hb d_S_make_36 rfl (lv_at hl 0 rfl) ?_
      refine lv_iload_n hx hb d_S_make_37 rfl (lv_at hl 1 rfl) ?_
      refine cl_Vv (j := 4) (As := [.int a1]) hC hw (ct_S_chooseSprites _ _ _ hk) m_141 mw_S_chooseSprites rfl ⟨rfl, rfl, Nat.le_of_ble_eq_true rfl, Nat.le_of_ble_eq_true rfl⟩ rfl rfl rfl hl.1 rfl (Nat.le_of_ble_eq_true rfl) d_S_make_38 (fun H locs M23 hk hw => ?_)
      exact hj1 _ _ _ _ hk hw (lv_sub hl [0, 1] rfl)
  · have hk := hk.2 hc
    refine lv_aload_n hx hb d_S_make_10 rfl (lv_at hl 0 rfl) ?_
    refine g_S_pixels hC hw m_24 d_S_make_11 ?_
    refine lv_iconst (v := 0) hx hb d_S_make_14 (by decide) ?_
    refine cl_Sv (As := [.ref (ad 13), .int (0 : Int32)]) hC hw (ct_A_fill13 _ _ _ hk) m_25 mw_A_fill rfl ⟨rfl, rfl, Nat.le_of_ble_eq_true rfl, Nat.le_of_ble_eq_true rfl⟩ rfl hl.1 rfl (Nat.le_of_ble_eq_true rfl) d_S_make_15 (fun H locs M24 hk hw => ?_)
    refine lv_iconst (v := 0) hx hb d_S_make_18 (by decide) ?_
    exact rt_i hQQ hx hb hr hlk hw ⟨_, rfl, hk⟩ d_S_make_19
