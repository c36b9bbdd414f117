set_option maxHeartbeats 4000000 in
set_option maxRecDepth 100000 in
theorem ct_K_controlThree {l : Launch} {D : va_G} {cA : ClassId} {ad tb : Nat → Nat} (M0 : Mem) (a1 : Int32) (a2 : Int32) (Q : Mem → Prop) (hk : wp_K_controlThree M0 a1 a2 Q) : Ct l y_K_controlThree ws_K_controlThree rm_K_controlThree D (ceC ad cA) cA tb [.ref (ad 1), .int a1, .int a2] M0 (QV Q) := by
  refine Ct.of (own := "TileConsole$Cartridge") (cc := b_K_controlThree) (maxL := 3) (ret := none) ceC_fix (by decide) rfl rfl (Nat.le_of_ble_eq_true rfl) ?_
  intro p e s m args below meth c A QQ ls H locs hQQ hC hr hlk hw hl
  have hx := hC.1.1
  have hb := hC.1.2.1
  unfold wp_K_controlThree at hk
  have hl : lv_has ls 3 [(0, .ref (ad 1)), (1, .int a1), (2, .int a2)] := hl
  refine lv_iload_n hx hb d_K_controlThree_0 rfl (lv_at hl 1 rfl) ?_
  refine lv_sipush (v := 8192) hx hb d_K_controlThree_1 (by decide) ?_
  have hj1 : ∀ (H : Heap) (locs : List Loc) (ls : Array Slot) (M9 : Mem), wp_K_controlThree_j1 M9 Q → Wd D (ceC ad cA) A s H locs M9 → lv_has ls 3 [(0, .ref (ad 1)), (1, .int a1), (2, .int a2)] → W p l e rm_K_controlThree s m args below meth c H locs 0 0 QQ (F0 m 95 ls []) := by
    intro H locs ls M9 hk hw hl
    unfold wp_K_controlThree_j1 at hk
    exact rt_v hQQ hx hb hr hlk hw ⟨rfl, hk⟩ d_K_controlThree_95
  refine lv_icmp_ge (tgt := 28) hx hb d_K_controlThree_4 (by decide) (fun hc => ?_) (fun hc => ?_)
  · have hk := hk.1 hc
    refine lv_iload_n hx hb d_K_controlThree_28 rfl (lv_at hl 1 rfl) ?_
    refine lv_sipush (v := 12288) hx hb d_K_controlThree_29 (by decide) ?_
    refine lv_icmp_ge (tgt := 52) hx hb d_K_controlThree_32 (by decide) (fun hc => ?_) (fun hc => ?_)
    · have hk := hk.1 hc
      refine lv_iload_n hx hb d_K_controlThree_52 rfl (lv_at hl 1 rfl) ?_
      refine lv_sipush (v := 16384) hx hb d_K_controlThree_53 (by decide) ?_
      refine lv_icmp_ge (tgt := 81) hx hb d_K_controlThree_56 (by decide) (fun hc => ?_) (fun hc => ?_)
      · have hk := hk.1 hc
        refine lv_iload_n hx hb d_K_controlThree_81 rfl (lv_at hl 1 rfl) ?_
        refine lv_sipush (v := 24576) hx hb d_K_controlThree_82 (by decide) ?_
        refine lv_icmp_ge (tgt := 95) hx hb d_K_controlThree_85 (by decide) (fun hc => ?_) (fun hc => ?_)
        · have hk := hk.1 hc
          exact hj1 _ _ _ _ hk hw (lv_sub hl [0, 1, 2] rfl)
        · have hk := hk.2 hc
          refine lv_aload_n hx hb d_K_controlThree_88 rfl (lv_at hl 0 rfl) ?_
          refine lv_iload_n hx hb d_K_controlThree_89 rfl (lv_at hl 2 rfl) ?_
          refine lv_iconst (v := 3) hx hb d_K_controlThree_90 (by decide) ?_
          refine lv_iand hx hb d_K_controlThree_91 ?_
          refine p_K_ramNumber hC hw m_7 d_K_controlThree_92 (fun H locs M10 e_M10 hw => ?_)
          have hk := hk M10 e_M10
          exact hj1 _ _ _ _ hk hw (lv_sub hl [0, 1, 2] rfl)
      · have hk := hk.2 hc
        refine lv_aload_n hx hb d_K_controlThree_59 rfl (lv_at hl 0 rfl) ?_
        refine lv_aload_n hx hb d_K_controlThree_60 rfl (lv_at hl 0 rfl) ?_
        refine g_K_romNumber hC hw m_4 d_K_controlThree_61 ?_
        refine lv_sipush (v := 255) hx hb d_K_controlThree_64 (by decide) ?_
        refine lv_iand hx hb d_K_controlThree_67 ?_
        refine lv_iload_n hx hb d_K_controlThree_68 rfl (lv_at hl 2 rfl) ?_
        refine lv_iconst (v := 1) hx hb d_K_controlThree_69 (by decide) ?_
        refine lv_iand hx hb d_K_controlThree_70 ?_
        refine lv_bipush (v := 8) hx hb d_K_controlThree_71 (by decide) ?_
        refine lv_ishl hx hb d_K_controlThree_73 ?_
        refine lv_ior hx hb d_K_controlThree_74 ?_
        refine p_K_romNumber hC hw m_4 d_K_controlThree_75 (fun H locs M11 e_M11 hw => ?_)
        have hk := hk M11 e_M11
        refine lv_goto (tgt := 95) hx hb d_K_controlThree_78 (by decide) ?_
        exact hj1 _ _ _ _ hk hw (lv_sub hl [0, 1, 2] rfl)
    · have hk := hk.2 hc
      refine lv_aload_n hx hb d_K_controlThree_35 rfl (lv_at hl 0 rfl) ?_
      refine lv_aload_n hx hb d_K_controlThree_36 rfl (lv_at hl 0 rfl) ?_
      refine g_K_romNumber hC hw m_4 d_K_controlThree_37 ?_
      refine lv_sipush (v := 256) hx hb d_K_controlThree_40 (by decide) ?_
      refine lv_iand hx hb d_K_controlThree_43 ?_
      refine lv_iload_n hx hb d_K_controlThree_44 rfl (lv_at hl 2 rfl) ?_
      refine lv_ior hx hb d_K_controlThree_45 ?_
      refine p_K_romNumber hC hw m_4 d_K_controlThree_46 (fun H locs M12 e_M12 hw => ?_)
      have hk := hk M12 e_M12
      refine lv_goto (tgt := 95) hx hb d_K_controlThree_49 (by decide) ?_
      exact hj1 _ _ _ _ hk hw (lv_sub hl [0, 1, 2] rfl)
  · have hk := hk.2 hc
    refine lv_aload_n hx hb d_K_controlThree_7 rfl (lv_at hl 0 rfl) ?_
    refine lv_iload_n hx hb d_K_controlThree_8 rfl (lv_at hl 2 rfl) ?_
    refine lv_bipush (v := 15) hx hb d_K_controlThree_9 (by decide) ?_
    refine lv_iand hx hb d_K_controlThree_11 ?_
    refine lv_bipush (v := 10) hx hb d_K_controlThree_12 (by decide) ?_
    have hj2 : ∀ (H : Heap) (locs : List Loc) (ls : Array Slot) (x15 : Int32), wp_K_controlThree_j2 M0 x15 Q → Wd D (ceC ad cA) A s H locs M0 → lv_has ls 3 [(0, .ref (ad 1)), (1, .int a1), (2, .int a2)] → W p l e rm_K_controlThree s m args below meth c H locs 0 0 QQ (F0 m 22 ls [.int x15, .ref (ad 1)]) := by
      intro H locs ls x15 hk hw hl
      unfold wp_K_controlThree_j2 at hk
      obtain ⟨hz, hk⟩ := hk
      refine p_K_enabled hC hw hz m_2 d_K_controlThree_22 (fun H locs M16 e_M16 hw => ?_)
      have hk := hk M16 e_M16
      refine lv_goto (tgt := 95) hx hb d_K_controlThree_25 (by decide) ?_
      exact hj1 _ _ _ _ hk hw (lv_sub hl [0, 1, 2] rfl)
    refine lv_icmp_ne (tgt := 21) hx hb d_K_controlThree_14 (by decide) (fun hc => ?_) (fun hc => ?_)
    · have hk := hk.1 hc
      refine lv_iconst (v := 0) hx hb d_K_controlThree_21 (by decide) ?_
      exact hj2 _ _ _ _ hk hw (lv_sub hl [0, 1, 2] rfl)
    · have hk := hk.2 hc
      refine lv_iconst (v := 1) hx hb d_K_controlThree_17 (by decide) ?_
      refine lv_goto (tgt := 22) hx hb d_K_controlThree_18 (by decide) ?_
      exact hj2 _ _ _ _ hk hw (lv_sub hl [0, 1, 2] rfl)
set_option maxHeartbeats 4000000 in
set_option maxRecDepth 100000 in
theorem ct_K_control {l : Launch} {D : va_G} {cA : ClassId} {ad tb : Nat → Nat} (M0 : Mem) (a1 : Int32) (a2 : Int32) (Q : Mem → Prop) (hk : wp_K_control M0 a1 a2 Q) : Ct l y_K_control ws_K_control rm_K_control D (ceC ad cA) cA tb [.ref (ad 1), .int a1, .int a2] M0 (QV Q) := by
  refine Ct.of (own := "TileConsole$Cartridge") (cc := b_K_control) (maxL := 3) (ret := none) ceC_fix (by decide) rfl rfl (Nat.le_of_ble_eq_true rfl) ?_
  intro p e s m args below meth c A QQ ls H locs hQQ hC hr hlk hw hl
  have hx := hC.1.1
  have hb := hC.1.2.1
  unfold wp_K_control at hk
  have hl : lv_has ls 3 [(0, .ref (ad 1)), (1, .int a1), (2, .int a2)] := hl
  refine lv_aload_n hx hb d_K_control_0 rfl (lv_at hl 0 rfl) ?_
  refine g_K_in hC hw m_0 d_K_control_1 ?_
  refine lv_if_ne (tgt := 8) hx hb d_K_control_4 (by decide) (fun hc => ?_) (fun hc => ?_)
  · have hk := hk.1 hc
    refine lv_aload_n hx hb d_K_control_8 rfl (lv_at hl 0 rfl) ?_
    refine g_K_kind hC hw m_1 d_K_control_9 ?_
    have hj1 : ∀ (H : Heap) (locs : List Loc) (ls : Array Slot) (M6 : Mem), wp_K_control_j1 M6 Q → Wd D (ceC ad cA) A s H locs M6 → lv_has ls 3 [(0, .ref (ad 1)), (1, .int a1), (2, .int a2)] → W p l e rm_K_control s m args below meth c H locs 0 0 QQ (F0 m 67 ls []) := by
      intro H locs ls M6 hk hw hl
      unfold wp_K_control_j1 at hk
      refine lv_aload_n hx hb d_K_control_67 rfl (lv_at hl 0 rfl) ?_
      refine cl_Vv (j := 1) (As := []) hC hw (ct_K_settle _  _ hk) m_9 mw_K_settle rfl ⟨rfl, rfl, Nat.le_of_ble_eq_true rfl, Nat.le_of_ble_eq_true rfl⟩ rfl rfl rfl hl.1 rfl (Nat.le_of_ble_eq_true rfl) d_K_control_68 (fun H locs M7 hk hw => ?_)
      exact rt_v hQQ hx hb hr hlk hw ⟨rfl, hk⟩ d_K_control_71
    by_cases hs1 : ((M0 1 3) = (1 : Int32))
    · have hk := hk.1 hs1
      refine lv_tableIn (x := (M0 1 3)) (off := 28) (tgt := 40) hx hb d_K_control_12 (by rw [hs1]; decide) (by rw [hs1]; decide) (by rw [hs1]; decide) (by decide) ?_
      refine lv_aload_n hx hb d_K_control_40 rfl (lv_at hl 0 rfl) ?_
      refine lv_iload_n hx hb d_K_control_41 rfl (lv_at hl 1 rfl) ?_
      refine lv_iload_n hx hb d_K_control_42 rfl (lv_at hl 2 rfl) ?_
      refine cl_Vv (j := 1) (As := [.int a1, .int a2]) hC hw (ct_K_controlOne _ _ _ _ hk) m_50 mw_K_controlOne rfl ⟨rfl, rfl, Nat.le_of_ble_eq_true rfl, Nat.le_of_ble_eq_true rfl⟩ rfl rfl rfl hl.1 rfl (Nat.le_of_ble_eq_true rfl) d_K_control_43 (fun H locs M8 hk hw => ?_)
      refine lv_goto (tgt := 67) hx hb d_K_control_46 (by decide) ?_
      exact hj1 _ _ _ _ hk hw (lv_sub hl [0, 1, 2] rfl)
    · have hk := hk.2 hs1
      by_cases hs2 : ((M0 1 3) = (2 : Int32))
      · have hk := hk.1 hs2
        refine lv_tableIn (x := (M0 1 3)) (off := 37) (tgt := 49) hx hb d_K_control_12 (by rw [hs2]; decide) (by rw [hs2]; decide) (by rw [hs2]; decide) (by decide) ?_
        refine lv_aload_n hx hb d_K_control_49 rfl (lv_at hl 0 rfl) ?_
        refine lv_iload_n hx hb d_K_control_50 rfl (lv_at hl 1 rfl) ?_
        refine lv_iload_n hx hb d_K_control_51 rfl (lv_at hl 2 rfl) ?_
        refine cl_Vv (j := 1) (As := [.int a1, .int a2]) hC hw (ct_K_controlTwo _ _ _ _ hk) m_51 mw_K_controlTwo rfl ⟨rfl, rfl, Nat.le_of_ble_eq_true rfl, Nat.le_of_ble_eq_true rfl⟩ rfl rfl rfl hl.1 rfl (Nat.le_of_ble_eq_true rfl) d_K_control_52 (fun H locs M9 hk hw => ?_)
        refine lv_goto (tgt := 67) hx hb d_K_control_55 (by decide) ?_
        exact hj1 _ _ _ _ hk hw (lv_sub hl [0, 1, 2] rfl)
      · have hk := hk.2 hs2
        by_cases hs3 : ((M0 1 3) = (3 : Int32))
        · have hk := hk.1 hs3
          refine lv_tableIn (x := (M0 1 3)) (off := 46) (tgt := 58) hx hb d_K_control_12 (by rw [hs3]; decide) (by rw [hs3]; decide) (by rw [hs3]; decide) (by decide) ?_
          refine lv_aload_n hx hb d_K_control_58 rfl (lv_at hl 0 rfl) ?_
          refine lv_iload_n hx hb d_K_control_59 rfl (lv_at hl 1 rfl) ?_
          refine lv_iload_n hx hb d_K_control_60 rfl (lv_at hl 2 rfl) ?_
          refine cl_Vv (j := 1) (As := [.int a1, .int a2]) hC hw (ct_K_controlThree _ _ _ _ hk) m_52 mw_K_controlThree rfl ⟨rfl, rfl, Nat.le_of_ble_eq_true rfl, Nat.le_of_ble_eq_true rfl⟩ rfl rfl rfl hl.1 rfl (Nat.le_of_ble_eq_true rfl) d_K_control_61 (fun H locs M10 hk hw => ?_)
          refine lv_goto (tgt := 67) hx hb d_K_control_64 (by decide) ?_
          exact hj1 _ _ _ _ hk hw (lv_sub hl [0, 1, 2] rfl)
        · have hk := hk.2 hs3
          refine lv_tableOut (x := (M0 1 3)) (tgt := 67) hx hb d_K_control_12 (by have hz := (⟨lv_neT hs1 (show ((1 : Int32)).toInt = 1 by decide), lv_neT hs2 (show ((2 : Int32)).toInt = 2 by decide), lv_neT hs3 (show ((3 : Int32)).toInt = 3 by decide)⟩ : ¬ ((M0 1 3)).toInt = 1 ∧ ¬ ((M0 1 3)).toInt = 2 ∧ ¬ ((M0 1 3)).toInt = 3); omega) (by decide) ?_
          exact hj1 _ _ _ _ hk hw (lv_sub hl [0, 1, 2] rfl)
  · have hk := hk.2 hc
    exact rt_v hQQ hx hb hr hlk hw ⟨rfl, hk⟩ d_K_control_7
set_option maxHeartbeats 4000000 in
set_option maxRecDepth 100000 in
theorem ct_K_storeRam {l : Launch} {D : va_G} {cA : ClassId} {ad tb : Nat → Nat} (M0 : Mem) (a1 : Int32) (a2 : Int32) (Q : Mem → Prop) (hk : wp_K_storeRam M0 a1 a2 Q) : Ct l y_K_storeRam ws_K_storeRam rm_K_storeRam D (ceC ad cA) cA tb [.ref (ad 1), .int a1, .int a2] M0 (QV Q) := by
  refine Ct.of (own := "TileConsole$Cartridge") (cc := b_K_storeRam) (maxL := 3) (ret := none) ceC_fix (by decide) rfl rfl (Nat.le_of_ble_eq_true rfl) ?_
  intro p e s m args below meth c A QQ ls H locs hQQ hC hr hlk hw hl
  have hx := hC.1.1
  have hb := hC.1.2.1
  unfold wp_K_storeRam at hk
  have hl : lv_has ls 3 [(0, .ref (ad 1)), (1, .int a1), (2, .int a2)] := hl
  refine lv_aload_n hx hb d_K_storeRam_0 rfl (lv_at hl 0 rfl) ?_
  refine g_K_on hC hw m_3 d_K_storeRam_1 ?_
  have hj1 : ∀ (H : Heap) (locs : List Loc) (ls : Array Slot) (M6 : Mem), wp_K_storeRam_j1 M6 Q → Wd D (ceC ad cA) A s H locs M6 → lv_has ls 3 [(0, .ref (ad 1)), (1, .int a1), (2, .int a2)] → W p l e rm_K_storeRam s m args below meth c H locs 0 0 QQ (F0 m 42 ls []) := by
    intro H locs ls M6 hk hw hl
    unfold wp_K_storeRam_j1 at hk
    exact rt_v hQQ hx hb hr hlk hw ⟨rfl, hk⟩ d_K_storeRam_42
  refine lv_if_eq (tgt := 42) hx hb d_K_storeRam_4 (by decide) (fun hc => ?_) (fun hc => ?_)
  · have hk := hk.1 hc
    exact hj1 _ _ _ _ hk hw (lv_sub hl [0, 1, 2] rfl)
  · have hk := hk.2 hc
    refine lv_aload_n hx hb d_K_storeRam_7 rfl (lv_at hl 0 rfl) ?_
    refine g_K_ram hC hw m_53 d_K_storeRam_8 ?_
    refine lv_aload_n hx hb d_K_storeRam_11 rfl (lv_at hl 0 rfl) ?_
    refine g_K_ramBank hC hw m_8 d_K_storeRam_12 ?_
    refine lv_sipush (v := 256) hx hb d_K_storeRam_15 (by decide) ?_
    refine lv_imul hx hb d_K_storeRam_18 ?_
    refine lv_iload_n hx hb d_K_storeRam_19 rfl (lv_at hl 1 rfl) ?_
    refine lv_sipush (v := 255) hx hb d_K_storeRam_20 (by decide) ?_
    refine lv_iand hx hb d_K_storeRam_23 ?_
    refine lv_iadd hx hb d_K_storeRam_24 ?_
    refine lv_aload_n hx hb d_K_storeRam_25 rfl (lv_at hl 0 rfl) ?_
    refine g_K_kind hC hw m_1 d_K_storeRam_26 ?_
    refine lv_iconst (v := 2) hx hb d_K_storeRam_29 (by decide) ?_
    have hj2 : ∀ (H : Heap) (locs : List Loc) (ls : Array Slot) (x9 : Int32), wp_K_storeRam_j2 M0 a1 x9 Q → Wd D (ceC ad cA) A s H locs M0 → lv_has ls 3 [(0, .ref (ad 1)), (1, .int a1), (2, .int a2)] → W p l e rm_K_storeRam s m args below meth c H locs 0 0 QQ (F0 m 41 ls [.int x9, .int (((M0 1 6) * (256 : Int32)) + (a1 &&& (255 : Int32))), .ref (ad 7)]) := by
      intro H locs ls x9 hk hw hl
      unfold wp_K_storeRam_j2 at hk
      obtain ⟨hin, hk⟩ := hk
      refine st_7 hC hw hin rfl d_K_storeRam_41 (fun H locs M10 e_M10 hw => ?_)
      have hk := hk M10 e_M10
      exact hj1 _ _ _ _ hk hw (lv_sub hl [0, 1, 2] rfl)
    refine lv_icmp_ne (tgt := 40) hx hb d_K_storeRam_30 (by decide) (fun hc => ?_) (fun hc => ?_)
    · have hk := hk.1 hc
      refine lv_iload_n hx hb d_K_storeRam_40 rfl (lv_at hl 2 rfl) ?_
      exact hj2 _ _ _ _ hk hw (lv_sub hl [0, 1, 2] rfl)
    · have hk := hk.2 hc
      refine lv_iload_n hx hb d_K_storeRam_33 rfl (lv_at hl 2 rfl) ?_
      refine lv_bipush (v := 15) hx hb d_K_storeRam_34 (by decide) ?_
      refine lv_iand hx hb d_K_storeRam_36 ?_
      refine lv_goto (tgt := 41) hx hb d_K_storeRam_37 (by decide) ?_
      exact hj2 _ _ _ _ hk hw (lv_sub hl [0, 1, 2] rfl)
set_option maxHeartbeats 4000000 in
set_option maxRecDepth 100000 in
theorem ct_P_clearDivider {l : Launch} {D : va_G} {cA : ClassId} {ad tb : Nat → Nat} (M0 : Mem) (Q : Mem → Prop) (hk : wp_P_clearDivider M0 Q) : Ct l y_P_clearDivider ws_P_clearDivider rm_P_clearDivider D (ceC ad cA) cA tb [.ref (ad 2)] M0 (QV Q) := by
  refine Ct.of (own := "TileConsole$Ports") (cc := b_P_clearDivider) (maxL := 1) (ret := none) ceC_fix (by decide) rfl rfl (Nat.le_of_ble_eq_true rfl) ?_
  intro p e s m args below meth c A QQ ls H locs hQQ hC hr hlk hw hl
  have hx := hC.1.1
  have hb := hC.1.2.1
  unfold wp_P_clearDivider at hk
  have hl : lv_has ls 1 [(0, .ref (ad 2))] := hl
  refine lv_aload_n hx hb d_P_clearDivider_0 rfl (lv_at hl 0 rfl) ?_
  refine lv_iconst (v := 0) hx hb d_P_clearDivider_1 (by decide) ?_
  refine p_P_ticks hC hw m_16 d_P_clearDivider_2 (fun H locs M1 e_M1 hw => ?_)
  have hk := hk M1 e_M1
  exact rt_v hQQ hx hb hr hlk hw ⟨rfl, hk⟩ d_P_clearDivider_5
set_option maxHeartbeats 4000000 in
set_option maxRecDepth 100000 in
theorem ct_P_store {l : Launch} {D : va_G} {cA : ClassId} {ad tb : Nat → Nat} (M0 : Mem) (a1 : Int32) (a2 : Int32) (Q : Mem → Prop) (hk : wp_P_store M0 a1 a2 Q) : Ct l y_P_store ws_P_store rm_P_store D (ceC ad cA) cA tb [.ref (ad 2), .int a1, .int a2] M0 (QV Q) := by
  refine Ct.of (own := "TileConsole$Ports") (cc := b_P_store) (maxL := 3) (ret := none) ceC_fix (by decide) rfl rfl (Nat.le_of_ble_eq_true rfl) ?_
  intro p e s m args below meth c A QQ ls H locs hQQ hC hr hlk hw hl
  have hx := hC.1.1
  have hb := hC.1.2.1
  unfold wp_P_store at hk
  have hl : lv_has ls 3 [(0, .ref (ad 2)), (1, .int a1), (2, .int a2)] := hl
  refine lv_iload_n hx hb d_P_store_0 rfl (lv_at hl 1 rfl) ?_
  have hj1 : ∀ (H : Heap) (locs : List Loc) (ls : Array Slot) (M10 : Mem), wp_P_store_j1 M10 Q → Wd D (ceC ad cA) A s H locs M10 → lv_has ls 3 [(0, .ref (ad 2)), (1, .int a1), (2, .int a2)] → W p l e rm_P_store s m args below meth c H locs 0 0 QQ (F0 m 148 ls []) := by
    intro H locs ls M10 hk hw hl
    unfold wp_P_store_j1 at hk
    exact rt_v hQQ hx hb hr hlk hw ⟨rfl, hk⟩ d_P_store_148
  by_cases hs1 : (a1 = (0 : Int32))
  · have hk := hk.1 hs1
    refine lv_lookup (x := a1) (off := 59) (tgt := 60) hx hb d_P_store_1 (by decide) (by rw [hs1]; decide) (by decide) ?_
    refine lv_aload_n hx hb d_P_store_60 rfl (lv_at hl 0 rfl) ?_
    refine g_P_octets hC hw m_10 d_P_store_61 ?_
    refine lv_iconst (v := 0) hx hb d_P_store_64 (by decide) ?_
    refine lv_iload_n hx hb d_P_store_65 rfl (lv_at hl 2 rfl) ?_
    refine lv_bipush (v := 48) hx hb d_P_store_66 (by decide) ?_
    refine lv_iand hx hb d_P_store_68 ?_
    refine st_8 (k := 0) hC hw (vin_lit rfl) (by decide) d_P_store_69 (fun H locs M11 e_M11 hw => ?_)
    have hk := hk M11 e_M11
    refine lv_goto (tgt := 148) hx hb d_P_store_70 (by decide) ?_
    exact hj1 _ _ _ _ hk hw (lv_sub hl [0, 1, 2] rfl)
  · have hk := hk.2 hs1
    by_cases hs2 : (a1 = (4 : Int32))
    · have hk := hk.1 hs2
      refine lv_lookup (x := a1) (off := 72) (tgt := 73) hx hb d_P_store_1 (by decide) (by rw [hs2]; decide) (by decide) ?_
      refine lv_aload_n hx hb d_P_store_73 rfl (lv_at hl 0 rfl) ?_
      refine cl_Vv (j := 2) (As := []) hC hw (ct_P_clearDivider _  _ hk) m_54 mw_P_clearDivider rfl ⟨rfl, rfl, Nat.le_of_ble_eq_true rfl, Nat.le_of_ble_eq_true rfl⟩ rfl rfl rfl hl.1 rfl (Nat.le_of_ble_eq_true rfl) d_P_store_74 (fun H locs M12 hk hw => ?_)
      refine lv_goto (tgt := 148) hx hb d_P_store_77 (by decide) ?_
      exact hj1 _ _ _ _ hk hw (lv_sub hl [0, 1, 2] rfl)
    · have hk := hk.2 hs2
      by_cases hs3 : (a1 = (7 : Int32))
      · have hk := hk.1 hs3
        refine lv_lookup (x := a1) (off := 79) (tgt := 80) hx hb d_P_store_1 (by decide) (by rw [hs3]; decide) (by decide) ?_
        refine lv_aload_n hx hb d_P_store_80 rfl (lv_at hl 0 rfl) ?_
        refine g_P_octets hC hw m_10 d_P_store_81 ?_
        refine lv_bipush (v := 7) hx hb d_P_store_84 (by decide) ?_
        refine lv_iload_n hx hb d_P_store_86 rfl (lv_at hl 2 rfl) ?_
        refine lv_bipush (v := 7) hx hb d_P_store_87 (by decide) ?_
        refine lv_iand hx hb d_P_store_89 ?_
        refine st_8 (k := 7) hC hw (vin_lit rfl) (by decide) d_P_store_90 (fun H locs M13 e_M13 hw => ?_)
        have hk := hk M13 e_M13
        refine lv_goto (tgt := 148) hx hb d_P_store_91 (by decide) ?_
        exact hj1 _ _ _ _ hk hw (lv_sub hl [0, 1, 2] rfl)
      · have hk := hk.2 hs3
        by_cases hs4 : (a1 = (15 : Int32))
        · have hk := hk.1 hs4
          refine lv_lookup (x := a1) (off := 93) (tgt := 94) hx hb d_P_store_1 (by decide) (by rw [hs4]; decide) (by decide) ?_
          refine lv_aload_n hx hb d_P_store_94 rfl (lv_at hl 0 rfl) ?_
          refine g_P_octets hC hw m_10 d_P_store_95 ?_
          refine lv_bipush (v := 15) hx hb d_P_store_98 (by decide) ?_
          refine lv_iload_n hx hb d_P_store_100 rfl (lv_at hl 2 rfl) ?_
          refine lv_bipush (v := 31) hx hb d_P_store_101 (by decide) ?_
          refine lv_iand hx hb d_P_store_103 ?_
          refine st_8 (k := 15) hC hw (vin_lit rfl) (by decide) d_P_store_104 (fun H locs M14 e_M14 hw => ?_)
          have hk := hk M14 e_M14
          refine lv_goto (tgt := 148) hx hb d_P_store_105 (by decide) ?_
          exact hj1 _ _ _ _ hk hw (lv_sub hl [0, 1, 2] rfl)
        · have hk := hk.2 hs4
          by_cases hs5 : (a1 = (64 : Int32))
          · have hk := hk.1 hs5
            refine lv_lookup (x := a1) (off := 121) (tgt := 122) hx hb d_P_store_1 (by decide) (by rw [hs5]; decide) (by decide) ?_
            refine lv_aload_n hx hb d_P_store_122 rfl (lv_at hl 0 rfl) ?_
            refine g_P_octets hC hw m_10 d_P_store_123 ?_
            refine lv_bipush (v := 64) hx hb d_P_store_126 (by decide) ?_
            refine lv_iload_n hx hb d_P_store_128 rfl (lv_at hl 2 rfl) ?_
            refine st_8 (k := 64) hC hw (vin_lit rfl) (by decide) d_P_store_129 (fun H locs M15 e_M15 hw => ?_)
            have hk := hk M15 e_M15
            refine lv_aload_n hx hb d_P_store_130 rfl (lv_at hl 0 rfl) ?_
            refine cl_Vv (j := 2) (As := []) hC hw (ct_P_findState _  _ hk) m_18 mw_P_findState rfl ⟨rfl, rfl, Nat.le_of_ble_eq_true rfl, Nat.le_of_ble_eq_true rfl⟩ rfl rfl rfl hl.1 rfl (Nat.le_of_ble_eq_true rfl) d_P_store_131 (fun H locs M16 hk hw => ?_)
            refine lv_goto (tgt := 148) hx hb d_P_store_134 (by decide) ?_
            exact hj1 _ _ _ _ hk hw (lv_sub hl [0, 1, 2] rfl)
          · have hk := hk.2 hs5
            by_cases hs6 : (a1 = (65 : Int32))
            · have hk := hk.1 hs6
              refine lv_lookup (x := a1) (off := 107) (tgt := 108) hx hb d_P_store_1 (by decide) (by rw [hs6]; decide) (by decide) ?_
              refine lv_aload_n hx hb d_P_store_108 rfl (lv_at hl 0 rfl) ?_
              refine g_P_octets hC hw m_10 d_P_store_109 ?_
              refine lv_bipush (v := 65) hx hb d_P_store_112 (by decide) ?_
              refine lv_iload_n hx hb d_P_store_114 rfl (lv_at hl 2 rfl) ?_
              refine lv_bipush (v := 120) hx hb d_P_store_115 (by decide) ?_
              refine lv_iand hx hb d_P_store_117 ?_
              refine st_8 (k := 65) hC hw (vin_lit rfl) (by decide) d_P_store_118 (fun H locs M17 e_M17 hw => ?_)
              have hk := hk M17 e_M17
              refine lv_goto (tgt := 148) hx hb d_P_store_119 (by decide) ?_
              exact hj1 _ _ _ _ hk hw (lv_sub hl [0, 1, 2] rfl)
            · have hk := hk.2 hs6
              refine lv_lookup (x := a1) (off := 136) (tgt := 137) hx hb d_P_store_1 (by decide) (by rw [lv_osw hs1 (by decide), lv_osw hs2 (by decide), lv_osw hs3 (by decide), lv_osw hs4 (by decide), lv_osw hs5 (by decide), lv_osw hs6 (by decide)]; rfl) (by decide) ?_
              refine lv_aload_n hx hb d_P_store_137 rfl (lv_at hl 0 rfl) ?_
              refine g_P_octets hC hw m_10 d_P_store_138 ?_
              refine lv_iload_n hx hb d_P_store_141 rfl (lv_at hl 1 rfl) ?_
              refine lv_sipush (v := 255) hx hb d_P_store_142 (by decide) ?_
              refine lv_iand hx hb d_P_store_145 ?_
              refine lv_iload_n hx hb d_P_store_146 rfl (lv_at hl 2 rfl) ?_
              obtain ⟨hin, hk⟩ := hk
              refine st_8 hC hw hin rfl d_P_store_147 (fun H locs M18 e_M18 hw => ?_)
              have hk := hk M18 e_M18
              exact hj1 _ _ _ _ hk hw (lv_sub hl [0, 1, 2] rfl)
set_option maxHeartbeats 4000000 in
set_option maxRecDepth 100000 in
theorem ct_K_loadRom {l : Launch} {D : va_G} {cA : ClassId} {ad tb : Nat → Nat} (M0 : Mem) (a1 : Int32) (Q : Int32 → Prop) (hk : wp_K_loadRom M0 a1 Q) : Ct l y_K_loadRom ws_K_loadRom rm_K_loadRom D (ceC ad cA) cA tb [.ref (ad 1), .int a1] M0 (QIp M0 Q) := by
  refine Ct.of (own := "TileConsole$Cartridge") (cc := b_K_loadRom) (maxL := 3) (ret := (some .int)) ceC_fix (by decide) rfl rfl (Nat.le_of_ble_eq_true rfl) ?_
  intro p e s m args below meth c A QQ ls H locs hQQ hC hr hlk hw hl
  have hx := hC.1.1
  have hb := hC.1.2.1
  unfold wp_K_loadRom at hk
  have hl : lv_has ls 3 [(0, .ref (ad 1)), (1, .int a1)] := hl
  refine lv_iload_n hx hb d_K_loadRom_0 rfl (lv_at hl 1 rfl) ?_
  refine lv_sipush (v := 16384) hx hb d_K_loadRom_1 (by decide) ?_
  have hj1 : ∀ (H : Heap) (locs : List Loc) (ls : Array Slot) (x2 : Int32), wp_K_loadRom_j1 M0 a1 x2 Q → Wd D (ceC ad cA) A s H locs M0 → lv_has ls 3 [(0, .ref (ad 1)), (1, .int a1)] → W p l e rm_K_loadRom s m args below meth c H locs 0 0 QQ (F0 m 15 ls [.int x2]) := by
    intro H locs ls x2 hk hw hl
    unfold wp_K_loadRom_j1 at hk
    refine lv_istore_n (lv' := [(2, .int x2), (0, .ref (ad 1)), (1, .int a1)]) hx hb d_K_loadRom_15 rfl hl (by decide) rfl (fun ls hl => ?_)
    refine lv_aload_n hx hb d_K_loadRom_16 rfl (lv_at hl 1 rfl) ?_
    refine g_K_rom hC hw m_49 d_K_loadRom_17 ?_
    refine lv_iload_n hx hb d_K_loadRom_20 rfl (lv_at hl 0 rfl) ?_
    refine lv_sipush (v := 1024) hx hb d_K_loadRom_21 (by decide) ?_
    refine lv_imul hx hb d_K_loadRom_24 ?_
    refine lv_iload_n hx hb d_K_loadRom_25 rfl (lv_at hl 2 rfl) ?_
    refine lv_sipush (v := 1023) hx hb d_K_loadRom_26 (by decide) ?_
    refine lv_iand hx hb d_K_loadRom_29 ?_
    refine lv_iadd hx hb d_K_loadRom_30 ?_
    obtain ⟨hin, hk⟩ := hk
    refine ld_6 hC hw hin rfl d_K_loadRom_31 ?_
    exact rt_i hQQ hx hb hr hlk hw ⟨rfl, _, rfl, hk⟩ d_K_loadRom_32
  refine lv_icmp_ge (tgt := 11) hx hb d_K_loadRom_4 (by decide) (fun hc => ?_) (fun hc => ?_)
  · have hk := hk.1 hc
    refine lv_aload_n hx hb d_K_loadRom_11 rfl (lv_at hl 0 rfl) ?_
    refine g_K_highBank hC hw m_5 d_K_loadRom_12 ?_
    exact hj1 _ _ _ _ hk hw (lv_sub hl [0, 1] rfl)
  · have hk := hk.2 hc
    refine lv_iconst (v := 0) hx hb d_K_loadRom_7 (by decide) ?_
    refine lv_goto (tgt := 15) hx hb d_K_loadRom_8 (by decide) ?_
    exact hj1 _ _ _ _ hk hw (lv_sub hl [0, 1] rfl)
set_option maxHeartbeats 4000000 in
set_option maxRecDepth 100000 in
theorem ct_K_loadRam {l : Launch} {D : va_G} {cA : ClassId} {ad tb : Nat → Nat} (M0 : Mem) (a1 : Int32) (Q : Int32 → Prop) (hk : wp_K_loadRam M0 a1 Q) : Ct l y_K_loadRam ws_K_loadRam rm_K_loadRam D (ceC ad cA) cA tb [.ref (ad 1), .int a1] M0 (QIp M0 Q) := by
  refine Ct.of (own := "TileConsole$Cartridge") (cc := b_K_loadRam) (maxL := 3) (ret := (some .int)) ceC_fix (by decide) rfl rfl (Nat.le_of_ble_eq_true rfl) ?_
  intro p e s m args below meth c A QQ ls H locs hQQ hC hr hlk hw hl
  have hx := hC.1.1
  have hb := hC.1.2.1
  unfold wp_K_loadRam at hk
  have hl : lv_has ls 3 [(0, .ref (ad 1)), (1, .int a1)] := hl
  refine lv_aload_n hx hb d_K_loadRam_0 rfl (lv_at hl 0 rfl) ?_
  refine g_K_on hC hw m_3 d_K_loadRam_1 ?_
  refine lv_if_ne (tgt := 11) hx hb d_K_loadRam_4 (by decide) (fun hc => ?_) (fun hc => ?_)
  · have hk := hk.1 hc
    refine lv_aload_n hx hb d_K_loadRam_11 rfl (lv_at hl 0 rfl) ?_
    refine g_K_ram hC hw m_53 d_K_loadRam_12 ?_
    refine lv_aload_n hx hb d_K_loadRam_15 rfl (lv_at hl 0 rfl) ?_
    refine g_K_ramBank hC hw m_8 d_K_loadRam_16 ?_
    refine lv_sipush (v := 256) hx hb d_K_loadRam_19 (by decide) ?_
    refine lv_imul hx hb d_K_loadRam_22 ?_
    refine lv_iload_n hx hb d_K_loadRam_23 rfl (lv_at hl 1 rfl) ?_
    refine lv_sipush (v := 255) hx hb d_K_loadRam_24 (by decide) ?_
    refine lv_iand hx hb d_K_loadRam_27 ?_
    refine lv_iadd hx hb d_K_loadRam_28 ?_
    obtain ⟨hin, hk⟩ := hk
    refine ld_7 hC hw hin rfl d_K_loadRam_29 ?_
    refine lv_topi (fun x1 e_x1 => ?_)
    have hk := hk x1 e_x1
    refine lv_istore_n (lv' := [(2, .int x1), (0, .ref (ad 1)), (1, .int a1)]) hx hb d_K_loadRam_30 rfl hl (by decide) rfl (fun ls hl => ?_)
    refine lv_aload_n hx hb d_K_loadRam_31 rfl (lv_at hl 1 rfl) ?_
    refine g_K_kind hC hw m_1 d_K_loadRam_32 ?_
    refine lv_iconst (v := 2) hx hb d_K_loadRam_35 (by decide) ?_
    have hj1 : ∀ (H : Heap) (locs : List Loc) (ls : Array Slot) (x3 : Int32), wp_K_loadRam_j1 x3 Q → Wd D (ceC ad cA) A s H locs M0 → lv_has ls 3 [(0, .ref (ad 1)), (1, .int a1), (2, .int x1)] → W p l e rm_K_loadRam s m args below meth c H locs 0 0 QQ (F0 m 48 ls [.int x3]) := by
      intro H locs ls x3 hk hw hl
      unfold wp_K_loadRam_j1 at hk
      exact rt_i hQQ hx hb hr hlk hw ⟨rfl, _, rfl, hk⟩ d_K_loadRam_48
    refine lv_icmp_ne (tgt := 47) hx hb d_K_loadRam_36 (by decide) (fun hc => ?_) (fun hc => ?_)
    · have hk := hk.1 hc
      refine lv_iload_n hx hb d_K_loadRam_47 rfl (lv_at hl 0 rfl) ?_
      exact hj1 _ _ _ _ hk hw (lv_sub hl [1, 2, 0] rfl)
    · have hk := hk.2 hc
      refine lv_iload_n hx hb d_K_loadRam_39 rfl (lv_at hl 0 rfl) ?_
      refine lv_sipush (v := 240) hx hb d_K_loadRam_40 (by decide) ?_
      refine lv_ior hx hb d_K_loadRam_43 ?_
      refine lv_goto (tgt := 48) hx hb d_K_loadRam_44 (by decide) ?_
      exact hj1 _ _ _ _ hk hw (lv_sub hl [1, 2, 0] rfl)
  · have hk := hk.2 hc
    refine lv_sipush (v := 255) hx hb d_K_loadRam_7 (by decide) ?_
    exact rt_i hQQ hx hb hr hlk hw ⟨rfl, _, rfl, hk⟩ d_K_loadRam_10
set_option maxHeartbeats 4000000 in
set_option maxRecDepth 100000 in
theorem ct_P_load {l : Launch} {D : va_G} {cA : ClassId} {ad tb : Nat → Nat} (M0 : Mem) (a1 : Int32) (Q : Int32 → Prop) (hk : wp_P_load M0 a1 Q) : Ct l y_P_load ws_P_load rm_P_load D (ceC ad cA) cA tb [.ref (ad 2), .int a1] M0 (QIp M0 Q) := by
  refine Ct.of (own := "TileConsole$Ports") (cc := b_P_load) (maxL := 4) (ret := (some .int)) ceC_fix (by decide) rfl rfl (Nat.le_of_ble_eq_true rfl) ?_
  intro p e s m args below meth c A QQ ls H locs hQQ hC hr hlk hw hl
  have hx := hC.1.1
  have hb := hC.1.2.1
  unfold wp_P_load at hk
  have hl : lv_has ls 4 [(0, .ref (ad 2)), (1, .int a1)] := hl
  refine lv_iload_n hx hb d_P_load_0 rfl (lv_at hl 1 rfl) ?_
  by_cases hs1 : (a1 = (0 : Int32))
  · have hk := hk.1 hs1
    refine lv_lookup (x := a1) (off := 163) (tgt := 164) hx hb d_P_load_1 (by decide) (by rw [hs1]; decide) (by decide) ?_
    refine lv_aload_n hx hb d_P_load_164 rfl (lv_at hl 0 rfl) ?_
    refine g_P_octets hC hw m_10 d_P_load_165 ?_
    refine lv_iconst (v := 0) hx hb d_P_load_168 (by decide) ?_
    refine ld_8 (k := 0) hC hw (vin_lit rfl) (by decide) d_P_load_169 ?_
    refine lv_topi (fun x1 e_x1 => ?_)
    have hk := hk x1 e_x1
    refine lv_istore_n (lv' := [(2, .int x1), (0, .ref (ad 2)), (1, .int a1)]) hx hb d_P_load_170 rfl hl (by decide) rfl (fun ls hl => ?_)
    refine lv_iload_n hx hb d_P_load_171 rfl (lv_at hl 0 rfl) ?_
    refine lv_bipush (v := 16) hx hb d_P_load_172 (by decide) ?_
    refine lv_iand hx hb d_P_load_174 ?_
    have hj1 : ∀ (H : Heap) (locs : List Loc) (ls : Array Slot) (x7 : Int32), wp_P_load_j1 M0 x1 x7 Q → Wd D (ceC ad cA) A s H locs M0 → lv_has ls 4 [(0, .ref (ad 2)), (1, .int a1), (2, .int x1)] → W p l e rm_P_load s m args below meth c H locs 0 0 QQ (F0 m 189 ls [.int x7]) := by
      intro H locs ls x7 hk hw hl
      unfold wp_P_load_j1 at hk
      refine lv_iload_n hx hb d_P_load_189 rfl (lv_at hl 2 rfl) ?_
      refine lv_bipush (v := 32) hx hb d_P_load_190 (by decide) ?_
      refine lv_iand hx hb d_P_load_192 ?_
      have hj2 : ∀ (H : Heap) (locs : List Loc) (ls : Array Slot) (x10 : Int32), wp_P_load_j2 x1 x7 x10 Q → Wd D (ceC ad cA) A s H locs M0 → lv_has ls 4 [(0, .ref (ad 2)), (1, .int a1), (2, .int x1)] → W p l e rm_P_load s m args below meth c H locs 0 0 QQ (F0 m 206 ls [.int x10, .int x7]) := by
        intro H locs ls x10 hk hw hl
        unfold wp_P_load_j2 at hk
        refine lv_ior hx hb d_P_load_206 ?_
        refine lv_topi (fun x11 e_x11 => ?_)
        have hk := hk x11 e_x11
        refine lv_istore_n (lv' := [(3, .int x11), (0, .ref (ad 2)), (1, .int a1), (2, .int x1)]) hx hb d_P_load_207 rfl hl (by decide) rfl (fun ls hl => ?_)
        refine lv_sipush (v := 192) hx hb d_P_load_208 (by decide) ?_
        refine lv_iload_n hx hb d_P_load_211 rfl (lv_at hl 3 rfl) ?_
        refine lv_ior hx hb d_P_load_212 ?_
        refine lv_iload_n hx hb d_P_load_213 rfl (lv_at hl 0 rfl) ?_
        refine lv_iconst (v := (-1)) hx hb d_P_load_214 (by decide) ?_
        refine lv_ixor hx hb d_P_load_215 ?_
        refine lv_bipush (v := 15) hx hb d_P_load_216 (by decide) ?_
        refine lv_iand hx hb d_P_load_218 ?_
        refine lv_ior hx hb d_P_load_219 ?_
        exact rt_i hQQ hx hb hr hlk hw ⟨rfl, _, rfl, hk⟩ d_P_load_220
      refine lv_if_ne (tgt := 205) hx hb d_P_load_193 (by decide) (fun hc => ?_) (fun hc => ?_)
      · have hk := hk.1 hc
        refine lv_iconst (v := 0) hx hb d_P_load_205 (by decide) ?_
        exact hj2 _ _ _ _ hk hw (lv_sub hl [0, 1, 2] rfl)
      · have hk := hk.2 hc
        refine lv_aload_n hx hb d_P_load_196 rfl (lv_at hl 0 rfl) ?_
        refine g_P_down hC hw m_55 d_P_load_197 ?_
        refine lv_iconst (v := 4) hx hb d_P_load_200 (by decide) ?_
        refine lv_ishr hx hb d_P_load_201 ?_
        refine lv_goto (tgt := 206) hx hb d_P_load_202 (by decide) ?_
        exact hj2 _ _ _ _ hk hw (lv_sub hl [0, 1, 2] rfl)
    refine lv_if_ne (tgt := 188) hx hb d_P_load_175 (by decide) (fun hc => ?_) (fun hc => ?_)
    · have hk := hk.1 hc
      refine lv_iconst (v := 0) hx hb d_P_load_188 (by decide) ?_
      exact hj1 _ _ _ _ hk hw (lv_sub hl [1, 2, 0] rfl)
    · have hk := hk.2 hc
      refine lv_aload_n hx hb d_P_load_178 rfl (lv_at hl 1 rfl) ?_
      refine g_P_down hC hw m_55 d_P_load_179 ?_
      refine lv_bipush (v := 15) hx hb d_P_load_182 (by decide) ?_
      refine lv_iand hx hb d_P_load_184 ?_
      refine lv_goto (tgt := 189) hx hb d_P_load_185 (by decide) ?_
      exact hj1 _ _ _ _ hk hw (lv_sub hl [1, 2, 0] rfl)
  · have hk := hk.2 hs1
    by_cases hs2 : (a1 = (4 : Int32))
    · have hk := hk.1 hs2
      refine lv_lookup (x := a1) (off := 220) (tgt := 221) hx hb d_P_load_1 (by decide) (by rw [hs2]; decide) (by decide) ?_
      refine lv_aload_n hx hb d_P_load_221 rfl (lv_at hl 0 rfl) ?_
      refine g_P_ticks hC hw m_16 d_P_load_222 ?_
      refine lv_bipush (v := 6) hx hb d_P_load_225 (by decide) ?_
      refine lv_ishr hx hb d_P_load_227 ?_
      refine lv_sipush (v := 255) hx hb d_P_load_228 (by decide) ?_
      refine lv_iand hx hb d_P_load_231 ?_
      exact rt_i hQQ hx hb hr hlk hw ⟨rfl, _, rfl, hk⟩ d_P_load_232
    · have hk := hk.2 hs2
      by_cases hs3 : (a1 = (5 : Int32) ∨ a1 = (6 : Int32) ∨ a1 = (64 : Int32) ∨ a1 = (66 : Int32) ∨ a1 = (67 : Int32) ∨ a1 = (69 : Int32) ∨ a1 = (70 : Int32) ∨ a1 = (71 : Int32) ∨ a1 = (72 : Int32) ∨ a1 = (73 : Int32) ∨ a1 = (74 : Int32) ∨ a1 = (75 : Int32) ∨ a1 = (255 : Int32))
      · have hk := hk.1 hs3
        have hW : W p l e rm_P_load s m args below meth c H locs 0 0 QQ (F0 m 299 ls []) := by
          refine lv_aload_n hx hb d_P_load_299 rfl (lv_at hl 0 rfl) ?_
          refine g_P_octets hC hw m_10 d_P_load_300 ?_
          refine lv_iload_n hx hb d_P_load_303 rfl (lv_at hl 1 rfl) ?_
          refine lv_sipush (v := 255) hx hb d_P_load_304 (by decide) ?_
          refine lv_iand hx hb d_P_load_307 ?_
          obtain ⟨hin, hk⟩ := hk
          refine ld_8 hC hw hin rfl d_P_load_308 ?_
          exact rt_i hQQ hx hb hr hlk hw ⟨rfl, _, rfl, hk⟩ d_P_load_309
        rcases hs3 with hs3 | hs3 | hs3 | hs3 | hs3 | hs3 | hs3 | hs3 | hs3 | hs3 | hs3 | hs3 | hs3
        · exact lv_lookup (x := a1) (off := 298) (tgt := 299) hx hb d_P_load_1 (by decide) (by rw [hs3]; decide) (by decide) hW
        · exact lv_lookup (x := a1) (off := 298) (tgt := 299) hx hb d_P_load_1 (by decide) (by rw [hs3]; decide) (by decide) hW
        · exact lv_lookup (x := a1) (off := 298) (tgt := 299) hx hb d_P_load_1 (by decide) (by rw [hs3]; decide) (by decide) hW
        · exact lv_lookup (x := a1) (off := 298) (tgt := 299) hx hb d_P_load_1 (by decide) (by rw [hs3]; decide) (by decide) hW
        · exact lv_lookup (x := a1) (off := 298) (tgt := 299) hx hb d_P_load_1 (by decide) (by rw [hs3]; decide) (by decide) hW
        · exact lv_lookup (x := a1) (off := 298) (tgt := 299) hx hb d_P_load_1 (by decide) (by rw [hs3]; decide) (by decide) hW
        · exact lv_lookup (x := a1) (off := 298) (tgt := 299) hx hb d_P_load_1 (by decide) (by rw [hs3]; decide) (by decide) hW
        · exact lv_lookup (x := a1) (off := 298) (tgt := 299) hx hb d_P_load_1 (by decide) (by rw [hs3]; decide) (by decide) hW
        · exact lv_lookup (x := a1) (off := 298) (tgt := 299) hx hb d_P_load_1 (by decide) (by rw [hs3]; decide) (by decide) hW
        · exact lv_lookup (x := a1) (off := 298) (tgt := 299) hx hb d_P_load_1 (by decide) (by rw [hs3]; decide) (by decide) hW
        · exact lv_lookup (x := a1) (off := 298) (tgt := 299) hx hb d_P_load_1 (by decide) (by rw [hs3]; decide) (by decide) hW
        · exact lv_lookup (x := a1) (off := 298) (tgt := 299) hx hb d_P_load_1 (by decide) (by rw [hs3]; decide) (by decide) hW
        · exact lv_lookup (x := a1) (off := 298) (tgt := 299) hx hb d_P_load_1 (by decide) (by rw [hs3]; decide) (by decide) hW
      · have hk := hk.2 hs3
        have hs4 : ¬ a1 = (5 : Int32) := fun z => hs3 (by simp [z])
        have hs5 : ¬ a1 = (6 : Int32) := fun z => hs3 (by simp [z])
        have hs6 : ¬ a1 = (64 : Int32) := fun z => hs3 (by simp [z])
        have hs7 : ¬ a1 = (66 : Int32) := fun z => hs3 (by simp [z])
        have hs8 : ¬ a1 = (67 : Int32) := fun z => hs3 (by simp [z])
        have hs9 : ¬ a1 = (69 : Int32) := fun z => hs3 (by simp [z])
        have hs10 : ¬ a1 = (70 : Int32) := fun z => hs3 (by simp [z])
        have hs11 : ¬ a1 = (71 : Int32) := fun z => hs3 (by simp [z])
        have hs12 : ¬ a1 = (72 : Int32) := fun z => hs3 (by simp [z])
        have hs13 : ¬ a1 = (73 : Int32) := fun z => hs3 (by simp [z])
        have hs14 : ¬ a1 = (74 : Int32) := fun z => hs3 (by simp [z])
        have hs15 : ¬ a1 = (75 : Int32) := fun z => hs3 (by simp [z])
        have hs16 : ¬ a1 = (255 : Int32) := fun z => hs3 (by simp [z])
        by_cases hs17 : (a1 = (7 : Int32))
        · have hk := hk.1 hs17
          refine lv_lookup (x := a1) (off := 232) (tgt := 233) hx hb d_P_load_1 (by decide) (by rw [hs17]; decide) (by decide) ?_
          refine lv_aload_n hx hb d_P_load_233 rfl (lv_at hl 0 rfl) ?_
          refine g_P_octets hC hw m_10 d_P_load_234 ?_
          refine lv_bipush (v := 7) hx hb d_P_load_237 (by decide) ?_
          refine ld_8 (k := 7) hC hw (vin_lit rfl) (by decide) d_P_load_239 ?_
          refine lv_sipush (v := 248) hx hb d_P_load_240 (by decide) ?_
          refine lv_ior hx hb d_P_load_243 ?_
          exact rt_i hQQ hx hb hr hlk hw ⟨rfl, _, rfl, hk⟩ d_P_load_244
        · have hk := hk.2 hs17
          by_cases hs18 : (a1 = (15 : Int32))
          · have hk := hk.1 hs18
            refine lv_lookup (x := a1) (off := 244) (tgt := 245) hx hb d_P_load_1 (by decide) (by rw [hs18]; decide) (by decide) ?_
            refine lv_aload_n hx hb d_P_load_245 rfl (lv_at hl 0 rfl) ?_
            refine g_P_octets hC hw m_10 d_P_load_246 ?_
            refine lv_bipush (v := 15) hx hb d_P_load_249 (by decide) ?_
            refine ld_8 (k := 15) hC hw (vin_lit rfl) (by decide) d_P_load_251 ?_
            refine lv_sipush (v := 224) hx hb d_P_load_252 (by decide) ?_
            refine lv_ior hx hb d_P_load_255 ?_
            exact rt_i hQQ hx hb hr hlk hw ⟨rfl, _, rfl, hk⟩ d_P_load_256
          · have hk := hk.2 hs18
            by_cases hs19 : (a1 = (65 : Int32))
            · have hk := hk.1 hs19
              refine lv_lookup (x := a1) (off := 256) (tgt := 257) hx hb d_P_load_1 (by decide) (by rw [hs19]; decide) (by decide) ?_
              refine lv_aload_n hx hb d_P_load_257 rfl (lv_at hl 0 rfl) ?_
              refine g_P_octets hC hw m_10 d_P_load_258 ?_
              refine lv_bipush (v := 65) hx hb d_P_load_261 (by decide) ?_
              refine ld_8 (k := 65) hC hw (vin_lit rfl) (by decide) d_P_load_263 ?_
              refine lv_sipush (v := 128) hx hb d_P_load_264 (by decide) ?_
              refine lv_ior hx hb d_P_load_267 ?_
              refine lv_aload_n hx hb d_P_load_268 rfl (lv_at hl 0 rfl) ?_
              refine g_P_ly hC hw m_11 d_P_load_269 ?_
              refine lv_aload_n hx hb d_P_load_272 rfl (lv_at hl 0 rfl) ?_
              refine g_P_octets hC hw m_10 d_P_load_273 ?_
              refine lv_bipush (v := 69) hx hb d_P_load_276 (by decide) ?_
              refine ld_8 (k := 69) hC hw (vin_lit rfl) (by decide) d_P_load_278 ?_
              have hj3 : ∀ (H : Heap) (locs : List Loc) (ls : Array Slot) (x13 : Int32), wp_P_load_j3 M0 x13 Q → Wd D (ceC ad cA) A s H locs M0 → lv_has ls 4 [(0, .ref (ad 2)), (1, .int a1)] → W p l e rm_P_load s m args below meth c H locs 0 0 QQ (F0 m 287 ls [.int x13, .int ((M0 8 65) ||| (128 : Int32))]) := by
                intro H locs ls x13 hk hw hl
                unfold wp_P_load_j3 at hk
                refine lv_ior hx hb d_P_load_287 ?_
                refine lv_aload_n hx hb d_P_load_288 rfl (lv_at hl 0 rfl) ?_
                refine g_P_state hC hw m_13 d_P_load_289 ?_
                refine lv_ior hx hb d_P_load_292 ?_
                exact rt_i hQQ hx hb hr hlk hw ⟨rfl, _, rfl, hk⟩ d_P_load_293
              refine lv_icmp_ne (tgt := 286) hx hb d_P_load_279 (by decide) (fun hc => ?_) (fun hc => ?_)
              · have hk := hk.1 hc
                refine lv_iconst (v := 0) hx hb d_P_load_286 (by decide) ?_
                exact hj3 _ _ _ _ hk hw (lv_sub hl [0, 1] rfl)
              · have hk := hk.2 hc
                refine lv_iconst (v := 4) hx hb d_P_load_282 (by decide) ?_
                refine lv_goto (tgt := 287) hx hb d_P_load_283 (by decide) ?_
                exact hj3 _ _ _ _ hk hw (lv_sub hl [0, 1] rfl)
            · have hk := hk.2 hs19
              by_cases hs20 : (a1 = (68 : Int32))
              · have hk := hk.1 hs20
                refine lv_lookup (x := a1) (off := 293) (tgt := 294) hx hb d_P_load_1 (by decide) (by rw [hs20]; decide) (by decide) ?_
                refine lv_aload_n hx hb d_P_load_294 rfl (lv_at hl 0 rfl) ?_
                refine g_P_ly hC hw m_11 d_P_load_295 ?_
                exact rt_i hQQ hx hb hr hlk hw ⟨rfl, _, rfl, hk⟩ d_P_load_298
              · have hk := hk.2 hs20
                refine lv_lookup (x := a1) (off := 309) (tgt := 310) hx hb d_P_load_1 (by decide) (by rw [lv_osw hs1 (by decide), lv_osw hs2 (by decide), lv_osw hs4 (by decide), lv_osw hs5 (by decide), lv_osw hs17 (by decide), lv_osw hs18 (by decide), lv_osw hs6 (by decide), lv_osw hs19 (by decide), lv_osw hs7 (by decide), lv_osw hs8 (by decide), lv_osw hs20 (by decide), lv_osw hs9 (by decide), lv_osw hs10 (by decide), lv_osw hs11 (by decide), lv_osw hs12 (by decide), lv_osw hs13 (by decide), lv_osw hs14 (by decide), lv_osw hs15 (by decide), lv_osw hs16 (by decide)]; rfl) (by decide) ?_
                refine lv_sipush (v := 255) hx hb d_P_load_310 (by decide) ?_
                exact rt_i hQQ hx hb hr hlk hw ⟨rfl, _, rfl, hk⟩ d_P_load_313
set_option maxHeartbeats 4000000 in
set_option maxRecDepth 100000 in
theorem ct_Y_load {l : Launch} {D : va_G} {cA : ClassId} {ad tb : Nat → Nat} (M0 : Mem) (a1 : Int32) (Q : Int32 → Prop) (hk : wp_Y_load M0 a1 Q) : Ct l y_Y_load ws_Y_load rm_Y_load D (ceC ad cA) cA tb [.ref (ad 3), .int a1] M0 (QIp M0 Q) := by
  refine Ct.of (own := "TileConsole$Memory") (cc := b_Y_load) (maxL := 2) (ret := (some .int)) ceC_fix (by decide) rfl rfl (Nat.le_of_ble_eq_true rfl) ?_
  intro p e s m args below meth c A QQ ls H locs hQQ hC hr hlk hw hl
  have hx := hC.1.1
  have hb := hC.1.2.1
  unfold wp_Y_load at hk
  have hl : lv_has ls 2 [(0, .ref (ad 3)), (1, .int a1)] := hl
  refine lv_iload_n hx hb d_Y_load_0 rfl (lv_at hl 1 rfl) ?_
  refine lv_ldc (v := (32768 : Int32)) hx hb hC.1.2.2.2.1 (hC.1.2.2.2.2 _ m_56) d_Y_load_1 ?_
  refine lv_icmp_ge (tgt := 15) hx hb d_Y_load_3 (by decide) (fun hc => ?_) (fun hc => ?_)
  · have hk := hk.1 hc
    refine lv_iload_n hx hb d_Y_load_15 rfl (lv_at hl 1 rfl) ?_
    refine lv_ldc (v := (40960 : Int32)) hx hb hC.1.2.2.2.1 (hC.1.2.2.2.2 _ m_57) d_Y_load_16 ?_
    refine lv_icmp_ge (tgt := 32) hx hb d_Y_load_18 (by decide) (fun hc => ?_) (fun hc => ?_)
    · have hk := hk.1 hc
      refine lv_iload_n hx hb d_Y_load_32 rfl (lv_at hl 1 rfl) ?_
      refine lv_ldc (v := (49152 : Int32)) hx hb hC.1.2.2.2.1 (hC.1.2.2.2.2 _ m_58) d_Y_load_33 ?_
      refine lv_icmp_ge (tgt := 47) hx hb d_Y_load_35 (by decide) (fun hc => ?_) (fun hc => ?_)
      · have hk := hk.1 hc
        refine lv_iload_n hx hb d_Y_load_47 rfl (lv_at hl 1 rfl) ?_
        refine lv_ldc (v := (65024 : Int32)) hx hb hC.1.2.2.2.1 (hC.1.2.2.2.2 _ m_59) d_Y_load_48 ?_
        refine lv_icmp_ge (tgt := 64) hx hb d_Y_load_50 (by decide) (fun hc => ?_) (fun hc => ?_)
        · have hk := hk.1 hc
          refine lv_iload_n hx hb d_Y_load_64 rfl (lv_at hl 1 rfl) ?_
          refine lv_ldc (v := (65184 : Int32)) hx hb hC.1.2.2.2.1 (hC.1.2.2.2.2 _ m_60) d_Y_load_65 ?_
          refine lv_icmp_ge (tgt := 80) hx hb d_Y_load_67 (by decide) (fun hc => ?_) (fun hc => ?_)
          · have hk := hk.1 hc
            refine lv_iload_n hx hb d_Y_load_80 rfl (lv_at hl 1 rfl) ?_
            refine lv_ldc (v := (65280 : Int32)) hx hb hC.1.2.2.2.1 (hC.1.2.2.2.2 _ m_61) d_Y_load_81 ?_
            refine lv_icmp_ge (tgt := 90) hx hb d_Y_load_83 (by decide) (fun hc => ?_) (fun hc => ?_)
            · have hk := hk.1 hc
              refine lv_iload_n hx hb d_Y_load_90 rfl (lv_at hl 1 rfl) ?_
              refine lv_ldc (v := (65408 : Int32)) hx hb hC.1.2.2.2.1 (hC.1.2.2.2.2 _ m_62) d_Y_load_91 ?_
              have hj1 : ∀ (H : Heap) (locs : List Loc) (ls : Array Slot), wp_Y_load_j1 M0 a1 Q → Wd D (ceC ad cA) A s H locs M0 → lv_has ls 2 [(0, .ref (ad 3)), (1, .int a1)] → W p l e rm_Y_load s m args below meth c H locs 0 0 QQ (F0 m 102 ls []) := by
                intro H locs ls  hk hw hl
                unfold wp_Y_load_j1 at hk
                refine lv_aload_n hx hb d_Y_load_102 rfl (lv_at hl 0 rfl) ?_
                refine g_Y_ports hC hw m_64 d_Y_load_103 ?_
                refine lv_iload_n hx hb d_Y_load_106 rfl (lv_at hl 1 rfl) ?_
                refine lv_sipush (v := 255) hx hb d_Y_load_107 (by decide) ?_
                refine lv_iand hx hb d_Y_load_110 ?_
                refine cl_Vip (j := 2) (As := [.int (a1 &&& (255 : Int32))]) hC hw (ct_P_load _ _ _ hk) m_65 mw_P_load rfl ⟨rfl, rfl, Nat.le_of_ble_eq_true rfl, Nat.le_of_ble_eq_true rfl⟩ rfl rfl rfl hl.1 rfl (Nat.le_of_ble_eq_true rfl) d_Y_load_111 (fun H locs x2 hk hw => ?_)
                exact rt_i hQQ hx hb hr hlk hw ⟨rfl, _, rfl, hk⟩ d_Y_load_114
              refine lv_icmp_lt (tgt := 102) hx hb d_Y_load_93 (by decide) (fun hc => ?_) (fun hc => ?_)
              · have hk := hk.1 hc
                exact hj1 _ _ _  hk hw (lv_sub hl [0, 1] rfl)
              · have hk := hk.2 hc
                refine lv_iload_n hx hb d_Y_load_96 rfl (lv_at hl 1 rfl) ?_
                refine lv_ldc (v := (65535 : Int32)) hx hb hC.1.2.2.2.1 (hC.1.2.2.2.2 _ m_63) d_Y_load_97 ?_
                refine lv_icmp_ne (tgt := 115) hx hb d_Y_load_99 (by decide) (fun hc => ?_) (fun hc => ?_)
                · have hk := hk.1 hc
                  refine lv_aload_n hx hb d_Y_load_115 rfl (lv_at hl 0 rfl) ?_
                  refine g_Y_high hC hw m_23 d_Y_load_116 ?_
                  refine lv_iload_n hx hb d_Y_load_119 rfl (lv_at hl 1 rfl) ?_
                  refine lv_bipush (v := 127) hx hb d_Y_load_120 (by decide) ?_
                  refine lv_iand hx hb d_Y_load_122 ?_
                  obtain ⟨hin, hk⟩ := hk
                  refine ld_12 hC hw hin rfl d_Y_load_123 ?_
                  exact rt_i hQQ hx hb hr hlk hw ⟨rfl, _, rfl, hk⟩ d_Y_load_124
                · have hk := hk.2 hc
                  exact hj1 _ _ _  hk hw (lv_sub hl [0, 1] rfl)
            · have hk := hk.2 hc
              refine lv_sipush (v := 255) hx hb d_Y_load_86 (by decide) ?_
              exact rt_i hQQ hx hb hr hlk hw ⟨rfl, _, rfl, hk⟩ d_Y_load_89
          · have hk := hk.2 hc
            refine lv_aload_n hx hb d_Y_load_70 rfl (lv_at hl 0 rfl) ?_
            refine g_Y_sprites hC hw m_21 d_Y_load_71 ?_
            refine lv_iload_n hx hb d_Y_load_74 rfl (lv_at hl 1 rfl) ?_
            refine lv_ldc (v := (65024 : Int32)) hx hb hC.1.2.2.2.1 (hC.1.2.2.2.2 _ m_59) d_Y_load_75 ?_
            refine lv_isub hx hb d_Y_load_77 ?_
            obtain ⟨hin, hk⟩ := hk
            refine ld_10 hC hw hin rfl d_Y_load_78 ?_
            exact rt_i hQQ hx hb hr hlk hw ⟨rfl, _, rfl, hk⟩ d_Y_load_79
        · have hk := hk.2 hc
          refine lv_aload_n hx hb d_Y_load_53 rfl (lv_at hl 0 rfl) ?_
          refine g_Y_work hC hw m_22 d_Y_load_54 ?_
          refine lv_iload_n hx hb d_Y_load_57 rfl (lv_at hl 1 rfl) ?_
          refine lv_sipush (v := 1023) hx hb d_Y_load_58 (by decide) ?_
          refine lv_iand hx hb d_Y_load_61 ?_
          obtain ⟨hin, hk⟩ := hk
          refine ld_11 hC hw hin rfl d_Y_load_62 ?_
          exact rt_i hQQ hx hb hr hlk hw ⟨rfl, _, rfl, hk⟩ d_Y_load_63
      · have hk := hk.2 hc
        refine lv_aload_n hx hb d_Y_load_38 rfl (lv_at hl 0 rfl) ?_
        refine g_Y_cartridge hC hw m_66 d_Y_load_39 ?_
        refine lv_iload_n hx hb d_Y_load_42 rfl (lv_at hl 1 rfl) ?_
        refine cl_Vip (j := 1) (As := [.int a1]) hC hw (ct_K_loadRam _ _ _ hk) m_67 mw_K_loadRam rfl ⟨rfl, rfl, Nat.le_of_ble_eq_true rfl, Nat.le_of_ble_eq_true rfl⟩ rfl rfl rfl hl.1 rfl (Nat.le_of_ble_eq_true rfl) d_Y_load_43 (fun H locs x3 hk hw => ?_)
        exact rt_i hQQ hx hb hr hlk hw ⟨rfl, _, rfl, hk⟩ d_Y_load_46
    · have hk := hk.2 hc
      refine lv_aload_n hx hb d_Y_load_21 rfl (lv_at hl 0 rfl) ?_
      refine g_Y_video hC hw m_19 d_Y_load_22 ?_
      refine lv_iload_n hx hb d_Y_load_25 rfl (lv_at hl 1 rfl) ?_
      refine lv_sipush (v := 8191) hx hb d_Y_load_26 (by decide) ?_
      refine lv_iand hx hb d_Y_load_29 ?_
      obtain ⟨hin, hk⟩ := hk
      refine ld_9 hC hw hin rfl d_Y_load_30 ?_
      exact rt_i hQQ hx hb hr hlk hw ⟨rfl, _, rfl, hk⟩ d_Y_load_31
  · have hk := hk.2 hc
    refine lv_aload_n hx hb d_Y_load_6 rfl (lv_at hl 0 rfl) ?_
    refine g_Y_cartridge hC hw m_66 d_Y_load_7 ?_
    refine lv_iload_n hx hb d_Y_load_10 rfl (lv_at hl 1 rfl) ?_
    refine cl_Vip (j := 1) (As := [.int a1]) hC hw (ct_K_loadRom _ _ _ hk) m_68 mw_K_loadRom rfl ⟨rfl, rfl, Nat.le_of_ble_eq_true rfl, Nat.le_of_ble_eq_true rfl⟩ rfl rfl rfl hl.1 rfl (Nat.le_of_ble_eq_true rfl) d_Y_load_11 (fun H locs x4 hk hw => ?_)
    exact rt_i hQQ hx hb hr hlk hw ⟨rfl, _, rfl, hk⟩ d_Y_load_14
set_option maxHeartbeats 4000000 in
set_option maxRecDepth 100000 in
theorem ct_Y_store {l : Launch} {D : va_G} {cA : ClassId} {ad tb : Nat → Nat} (M0 : Mem) (a1 : Int32) (a2 : Int32) (Q : Mem → Prop) (hk : wp_Y_store M0 a1 a2 Q) : Ct l y_Y_store ws_Y_store rm_Y_store D (ceC ad cA) cA tb [.ref (ad 3), .int a1, .int a2] M0 (QV Q) := by
  refine Ct.of (own := "TileConsole$Memory") (cc := b_Y_store) (maxL := 4) (ret := none) ceC_fix (by decide) rfl rfl (Nat.le_of_ble_eq_true rfl) ?_
  intro p e s m args below meth c A QQ ls H locs hQQ hC hr hlk hw hl
  have hx := hC.1.1
  have hb := hC.1.2.1
  unfold wp_Y_store at hk
  have hl : lv_has ls 4 [(0, .ref (ad 3)), (1, .int a1), (2, .int a2)] := hl
  refine lv_iload_n hx hb d_Y_store_0 rfl (lv_at hl 1 rfl) ?_
  refine lv_ldc (v := (32768 : Int32)) hx hb hC.1.2.2.2.1 (hC.1.2.2.2.2 _ m_56) d_Y_store_1 ?_
  have hj1 : ∀ (H : Heap) (locs : List Loc) (ls : Array Slot) (M21 : Mem), wp_Y_store_j1 M21 Q → Wd D (ceC ad cA) A s H locs M21 → lv_has ls 4 [(0, .ref (ad 3)), (1, .int a1), (2, .int a2)] → W p l e rm_Y_store s m args below meth c H locs 0 0 QQ (F0 m 177 ls []) := by
    intro H locs ls M21 hk hw hl
    unfold wp_Y_store_j1 at hk
    exact rt_v hQQ hx hb hr hlk hw ⟨rfl, hk⟩ d_Y_store_177
  refine lv_icmp_ge (tgt := 18) hx hb d_Y_store_3 (by decide) (fun hc => ?_) (fun hc => ?_)
  · have hk := hk.1 hc
    refine lv_iload_n hx hb d_Y_store_18 rfl (lv_at hl 1 rfl) ?_
    refine lv_ldc (v := (40960 : Int32)) hx hb hC.1.2.2.2.1 (hC.1.2.2.2.2 _ m_57) d_Y_store_19 ?_
    refine lv_icmp_ge (tgt := 38) hx hb d_Y_store_21 (by decide) (fun hc => ?_) (fun hc => ?_)
    · have hk := hk.1 hc
      refine lv_iload_n hx hb d_Y_store_38 rfl (lv_at hl 1 rfl) ?_
      refine lv_ldc (v := (49152 : Int32)) hx hb hC.1.2.2.2.1 (hC.1.2.2.2.2 _ m_58) d_Y_store_39 ?_
      refine lv_icmp_ge (tgt := 56) hx hb d_Y_store_41 (by decide) (fun hc => ?_) (fun hc => ?_)
      · have hk := hk.1 hc
        refine lv_iload_n hx hb d_Y_store_56 rfl (lv_at hl 1 rfl) ?_
        refine lv_ldc (v := (65024 : Int32)) hx hb hC.1.2.2.2.1 (hC.1.2.2.2.2 _ m_59) d_Y_store_57 ?_
        refine lv_icmp_ge (tgt := 76) hx hb d_Y_store_59 (by decide) (fun hc => ?_) (fun hc => ?_)
        · have hk := hk.1 hc
          refine lv_iload_n hx hb d_Y_store_76 rfl (lv_at hl 1 rfl) ?_
          refine lv_ldc (v := (65184 : Int32)) hx hb hC.1.2.2.2.1 (hC.1.2.2.2.2 _ m_60) d_Y_store_77 ?_
          refine lv_icmp_ge (tgt := 95) hx hb d_Y_store_79 (by decide) (fun hc => ?_) (fun hc => ?_)
          · have hk := hk.1 hc
            refine lv_iload_n hx hb d_Y_store_95 rfl (lv_at hl 1 rfl) ?_
            refine lv_ldc (v := (65408 : Int32)) hx hb hC.1.2.2.2.1 (hC.1.2.2.2.2 _ m_62) d_Y_store_96 ?_
            have hj2 : ∀ (H : Heap) (locs : List Loc) (ls : Array Slot), wp_Y_store_j2 M0 a1 a2 Q → Wd D (ceC ad cA) A s H locs M0 → lv_has ls 4 [(0, .ref (ad 3)), (1, .int a1), (2, .int a2)] → W p l e rm_Y_store s m args below meth c H locs 0 0 QQ (F0 m 120 ls []) := by
              intro H locs ls  hk hw hl
              unfold wp_Y_store_j2 at hk
              refine lv_iload_n hx hb d_Y_store_120 rfl (lv_at hl 1 rfl) ?_
              refine lv_ldc (v := (65280 : Int32)) hx hb hC.1.2.2.2.1 (hC.1.2.2.2.2 _ m_61) d_Y_store_121 ?_
              refine lv_icmp_lt (tgt := 177) hx hb d_Y_store_123 (by decide) (fun hc => ?_) (fun hc => ?_)
              · have hk := hk.1 hc
                exact hj1 _ _ _ _ hk hw (lv_sub hl [0, 1, 2] rfl)
              · have hk := hk.2 hc
                refine lv_aload_n hx hb d_Y_store_126 rfl (lv_at hl 0 rfl) ?_
                refine g_Y_ports hC hw m_64 d_Y_store_127 ?_
                refine lv_iload_n hx hb d_Y_store_130 rfl (lv_at hl 1 rfl) ?_
                refine lv_sipush (v := 255) hx hb d_Y_store_131 (by decide) ?_
                refine lv_iand hx hb d_Y_store_134 ?_
                refine lv_iload_n hx hb d_Y_store_135 rfl (lv_at hl 2 rfl) ?_
                refine cl_Vv (j := 2) (As := [.int (a1 &&& (255 : Int32)), .int a2]) hC hw (ct_P_store _ _ _ _ hk) m_69 mw_P_store rfl ⟨rfl, rfl, Nat.le_of_ble_eq_true rfl, Nat.le_of_ble_eq_true rfl⟩ rfl rfl rfl hl.1 rfl (Nat.le_of_ble_eq_true rfl) d_Y_store_136 (fun H locs M29 hk hw => ?_)
                refine lv_iload_n hx hb d_Y_store_139 rfl (lv_at hl 1 rfl) ?_
                refine lv_ldc (v := (65350 : Int32)) hx hb hC.1.2.2.2.1 (hC.1.2.2.2.2 _ m_70) d_Y_store_140 ?_
                refine lv_icmp_ne (tgt := 177) hx hb d_Y_store_142 (by decide) (fun hc => ?_) (fun hc => ?_)
                · have hk := hk.1 hc
                  exact hj1 _ _ _ _ hk hw (lv_sub hl [0, 1, 2] rfl)
                · have hk := hk.2 hc
                  refine lv_iconst (v := 0) hx hb d_Y_store_145 (by decide) ?_
                  refine lv_istore_n (lv' := [(3, .int (0 : Int32)), (0, .ref (ad 3)), (1, .int a1), (2, .int a2)]) hx hb d_Y_store_146 rfl hl (by decide) rfl (fun ls hl => ?_)
                  have hl1 : ∀ (n : Nat) (H : Heap) (locs : List Loc) (ls : Array Slot) (x30 : Int32) (M31 : Mem), wp_Y_store_l1 a2 Q n x30 M31 → Wd D (ceC ad cA) A s H locs M31 → lv_has ls 4 [(0, .ref (ad 3)), (1, .int a1), (2, .int a2), (3, .int x30)] → W p l e rm_Y_store s m args below meth c H locs 0 0 QQ (F0 m 147 ls []) := by
                    intro n
                    induction n with
                    | zero => intro H locs ls x30 M31 hk; exact False.elim hk
                    | succ n1 ih1 =>
                      intro H locs ls x30 M31 hk hw hl
                      refine lv_iload_n hx hb d_Y_store_147 rfl (lv_at hl 3 rfl) ?_
                      refine lv_sipush (v := 160) hx hb d_Y_store_148 (by decide) ?_
                      refine lv_icmp_ge (tgt := 177) hx hb d_Y_store_151 (by decide) (fun hc => ?_) (fun hc => ?_)
                      · have hk := hk.1 hc
                        exact hj1 _ _ _ _ hk hw (lv_sub hl [0, 1, 2] rfl)
                      · have hk := hk.2 hc
                        refine lv_aload_n hx hb d_Y_store_154 rfl (lv_at hl 0 rfl) ?_
                        refine g_Y_sprites hC hw m_21 d_Y_store_155 ?_
                        refine lv_iload_n hx hb d_Y_store_158 rfl (lv_at hl 3 rfl) ?_
                        refine lv_aload_n hx hb d_Y_store_159 rfl (lv_at hl 0 rfl) ?_
                        refine lv_iload_n hx hb d_Y_store_160 rfl (lv_at hl 2 rfl) ?_
                        refine lv_sipush (v := 256) hx hb d_Y_store_161 (by decide) ?_
                        refine lv_imul hx hb d_Y_store_164 ?_
                        refine lv_iload_n hx hb d_Y_store_165 rfl (lv_at hl 3 rfl) ?_
                        refine lv_iadd hx hb d_Y_store_166 ?_
                        refine cl_Vip (j := 3) (As := [.int ((a2 * (256 : Int32)) + x30)]) hC hw (ct_Y_load _ _ _ hk) m_71 mw_Y_load rfl ⟨rfl, rfl, Nat.le_of_ble_eq_true rfl, Nat.le_of_ble_eq_true rfl⟩ rfl rfl rfl hl.1 rfl (Nat.le_of_ble_eq_true rfl) d_Y_store_167 (fun H locs x32 hk hw => ?_)
                        obtain ⟨hin, hk⟩ := hk
                        refine st_10 hC hw hin rfl d_Y_store_170 (fun H locs M33 e_M33 hw => ?_)
                        have hk := hk M33 e_M33
                        obtain ⟨x34, e_x34⟩ : ∃ y : Int32, y = x30 + (1 : Int32) := ⟨_, rfl⟩
                        have hk := hk x34 e_x34
                        refine lv_iinc (v := x34) (lv' := [(3, .int x34), (0, .ref (ad 3)), (1, .int a1), (2, .int a2)]) hx hb d_Y_store_171 hl (k := 3) rfl (by rw [e_x34]; rfl) (by decide) rfl (fun ls hl => ?_)
                        refine lv_goto (tgt := 147) hx hb d_Y_store_174 (by decide) ?_
                        exact ih1 _ _ _ _ _ hk hw (lv_sub hl [1, 2, 3, 0] rfl)
                  obtain ⟨n, hk⟩ := hk
                  exact hl1 n _ _ _ _ _ hk hw (lv_sub hl [1, 2, 3, 0] rfl)
            refine lv_icmp_lt (tgt := 120) hx hb d_Y_store_98 (by decide) (fun hc => ?_) (fun hc => ?_)
            · have hk := hk.1 hc
              exact hj2 _ _ _  hk hw (lv_sub hl [0, 1, 2] rfl)
            · have hk := hk.2 hc
              refine lv_iload_n hx hb d_Y_store_101 rfl (lv_at hl 1 rfl) ?_
              refine lv_ldc (v := (65535 : Int32)) hx hb hC.1.2.2.2.1 (hC.1.2.2.2.2 _ m_63) d_Y_store_102 ?_
              refine lv_icmp_ge (tgt := 120) hx hb d_Y_store_104 (by decide) (fun hc => ?_) (fun hc => ?_)
              · have hk := hk.1 hc
                exact hj2 _ _ _  hk hw (lv_sub hl [0, 1, 2] rfl)
              · have hk := hk.2 hc
                refine lv_aload_n hx hb d_Y_store_107 rfl (lv_at hl 0 rfl) ?_
                refine g_Y_high hC hw m_23 d_Y_store_108 ?_
                refine lv_iload_n hx hb d_Y_store_111 rfl (lv_at hl 1 rfl) ?_
                refine lv_bipush (v := 127) hx hb d_Y_store_112 (by decide) ?_
                refine lv_iand hx hb d_Y_store_114 ?_
                refine lv_iload_n hx hb d_Y_store_115 rfl (lv_at hl 2 rfl) ?_
                obtain ⟨hin, hk⟩ := hk
                refine st_12 hC hw hin rfl d_Y_store_116 (fun H locs M35 e_M35 hw => ?_)
                have hk := hk M35 e_M35
                refine lv_goto (tgt := 177) hx hb d_Y_store_117 (by decide) ?_
                exact hj1 _ _ _ _ hk hw (lv_sub hl [0, 1, 2] rfl)
          · have hk := hk.2 hc
            refine lv_aload_n hx hb d_Y_store_82 rfl (lv_at hl 0 rfl) ?_
            refine g_Y_sprites hC hw m_21 d_Y_store_83 ?_
            refine lv_iload_n hx hb d_Y_store_86 rfl (lv_at hl 1 rfl) ?_
            refine lv_ldc (v := (65024 : Int32)) hx hb hC.1.2.2.2.1 (hC.1.2.2.2.2 _ m_59) d_Y_store_87 ?_
            refine lv_isub hx hb d_Y_store_89 ?_
            refine lv_iload_n hx hb d_Y_store_90 rfl (lv_at hl 2 rfl) ?_
            obtain ⟨hin, hk⟩ := hk
            refine st_10 hC hw hin rfl d_Y_store_91 (fun H locs M36 e_M36 hw => ?_)
            have hk := hk M36 e_M36
            refine lv_goto (tgt := 177) hx hb d_Y_store_92 (by decide) ?_
            exact hj1 _ _ _ _ hk hw (lv_sub hl [0, 1, 2] rfl)
        · have hk := hk.2 hc
          refine lv_aload_n hx hb d_Y_store_62 rfl (lv_at hl 0 rfl) ?_
          refine g_Y_work hC hw m_22 d_Y_store_63 ?_
          refine lv_iload_n hx hb d_Y_store_66 rfl (lv_at hl 1 rfl) ?_
          refine lv_sipush (v := 1023) hx hb d_Y_store_67 (by decide) ?_
          refine lv_iand hx hb d_Y_store_70 ?_
          refine lv_iload_n hx hb d_Y_store_71 rfl (lv_at hl 2 rfl) ?_
          obtain ⟨hin, hk⟩ := hk
          refine st_11 hC hw hin rfl d_Y_store_72 (fun H locs M37 e_M37 hw => ?_)
          have hk := hk M37 e_M37
          refine lv_goto (tgt := 177) hx hb d_Y_store_73 (by decide) ?_
          exact hj1 _ _ _ _ hk hw (lv_sub hl [0, 1, 2] rfl)
      · have hk := hk.2 hc
        refine lv_aload_n hx hb d_Y_store_44 rfl (lv_at hl 0 rfl) ?_
        refine g_Y_cartridge hC hw m_66 d_Y_store_45 ?_
        refine lv_iload_n hx hb d_Y_store_48 rfl (lv_at hl 1 rfl) ?_
        refine lv_iload_n hx hb d_Y_store_49 rfl (lv_at hl 2 rfl) ?_
        refine cl_Vv (j := 1) (As := [.int a1, .int a2]) hC hw (ct_K_storeRam _ _ _ _ hk) m_72 mw_K_storeRam rfl ⟨rfl, rfl, Nat.le_of_ble_eq_true rfl, Nat.le_of_ble_eq_true rfl⟩ rfl rfl rfl hl.1 rfl (Nat.le_of_ble_eq_true rfl) d_Y_store_50 (fun H locs M38 hk hw => ?_)
        refine lv_goto (tgt := 177) hx hb d_Y_store_53 (by decide) ?_
        exact hj1 _ _ _ _ hk hw (lv_sub hl [0, 1, 2] rfl)
    · have hk := hk.2 hc
      refine lv_aload_n hx hb d_Y_store_24 rfl (lv_at hl 0 rfl) ?_
      refine g_Y_video hC hw m_19 d_Y_store_25 ?_
      refine lv_iload_n hx hb d_Y_store_28 rfl (lv_at hl 1 rfl) ?_
      refine lv_sipush (v := 8191) hx hb d_Y_store_29 (by decide) ?_
      refine lv_iand hx hb d_Y_store_32 ?_
      refine lv_iload_n hx hb d_Y_store_33 rfl (lv_at hl 2 rfl) ?_
      obtain ⟨hin, hk⟩ := hk
      refine st_9 hC hw hin rfl d_Y_store_34 (fun H locs M39 e_M39 hw => ?_)
      have hk := hk M39 e_M39
      refine lv_goto (tgt := 177) hx hb d_Y_store_35 (by decide) ?_
      exact hj1 _ _ _ _ hk hw (lv_sub hl [0, 1, 2] rfl)
  · have hk := hk.2 hc
    refine lv_aload_n hx hb d_Y_store_6 rfl (lv_at hl 0 rfl) ?_
    refine g_Y_cartridge hC hw m_66 d_Y_store_7 ?_
    refine lv_iload_n hx hb d_Y_store_10 rfl (lv_at hl 1 rfl) ?_
    refine lv_iload_n hx hb d_Y_store_11 rfl (lv_at hl 2 rfl) ?_
    refine cl_Vv (j := 1) (As := [.int a1, .int a2]) hC hw (ct_K_control _ _ _ _ hk) m_73 mw_K_control rfl ⟨rfl, rfl, Nat.le_of_ble_eq_true rfl, Nat.le_of_ble_eq_true rfl⟩ rfl rfl rfl hl.1 rfl (Nat.le_of_ble_eq_true rfl) d_Y_store_12 (fun H locs M40 hk hw => ?_)
    refine lv_goto (tgt := 177) hx hb d_Y_store_15 (by decide) ?_
    exact hj1 _ _ _ _ hk hw (lv_sub hl [0, 1, 2] rfl)
set_option maxHeartbeats 4000000 in
set_option maxRecDepth 100000 in
theorem ct_Q_push {l : Launch} {D : va_G} {cA : ClassId} {ad tb : Nat → Nat} (M0 : Mem) (a1 : Int32) (Q : Mem → Prop) (hk : wp_Q_push M0 a1 Q) : Ct l y_Q_push ws_Q_push rm_Q_push D (ceC ad cA) cA tb [.ref (ad 5), .int a1] M0 (QV Q) := by
  refine Ct.of (own := "TileConsole$Processor") (cc := b_Q_push) (maxL := 2) (ret := none) ceC_fix (by decide) rfl rfl (Nat.le_of_ble_eq_true rfl) ?_
  intro p e s m args below meth c A QQ ls H locs hQQ hC hr hlk hw hl
  have hx := hC.1.1
  have hb := hC.1.2.1
  unfold wp_Q_push at hk
  have hl : lv_has ls 2 [(0, .ref (ad 5)), (1, .int a1)] := hl
  refine lv_aload_n hx hb d_Q_push_0 rfl (lv_at hl 0 rfl) ?_
  refine g_Q_memory hC hw m_74 d_Q_push_1 ?_
  refine lv_aload_n hx hb d_Q_push_4 rfl (lv_at hl 0 rfl) ?_
  refine g_Q_sp hC hw m_28 d_Q_push_5 ?_
  refine lv_iconst (v := 1) hx hb d_Q_push_8 (by decide) ?_
  refine lv_isub hx hb d_Q_push_9 ?_
  refine lv_ldc (v := (65535 : Int32)) hx hb hC.1.2.2.2.1 (hC.1.2.2.2.2 _ m_27) d_Q_push_10 ?_
  refine lv_iand hx hb d_Q_push_12 ?_
  refine lv_iload_n hx hb d_Q_push_13 rfl (lv_at hl 1 rfl) ?_
  refine lv_bipush (v := 8) hx hb d_Q_push_14 (by decide) ?_
  refine lv_ishr hx hb d_Q_push_16 ?_
  refine cl_Vv (j := 3) (As := [.int (((M0 5 7) - (1 : Int32)) &&& (65535 : Int32)), .int (a1 >>> ((8 : Int32) &&& (31 : Int32)))]) hC hw (ct_Y_store _ _ _ _ hk) m_75 mw_Y_store rfl ⟨rfl, rfl, Nat.le_of_ble_eq_true rfl, Nat.le_of_ble_eq_true rfl⟩ rfl rfl rfl hl.1 rfl (Nat.le_of_ble_eq_true rfl) d_Q_push_17 (fun H locs M1 hk hw => ?_)
  refine lv_aload_n hx hb d_Q_push_20 rfl (lv_at hl 0 rfl) ?_
  refine g_Q_memory hC hw m_74 d_Q_push_21 ?_
  refine lv_aload_n hx hb d_Q_push_24 rfl (lv_at hl 0 rfl) ?_
  refine g_Q_sp hC hw m_28 d_Q_push_25 ?_
  refine lv_iconst (v := 2) hx hb d_Q_push_28 (by decide) ?_
  refine lv_isub hx hb d_Q_push_29 ?_
  refine lv_ldc (v := (65535 : Int32)) hx hb hC.1.2.2.2.1 (hC.1.2.2.2.2 _ m_27) d_Q_push_30 ?_
  refine lv_iand hx hb d_Q_push_32 ?_
  refine lv_iload_n hx hb d_Q_push_33 rfl (lv_at hl 1 rfl) ?_
  refine lv_sipush (v := 255) hx hb d_Q_push_34 (by decide) ?_
  refine lv_iand hx hb d_Q_push_37 ?_
  refine cl_Vv (j := 3) (As := [.int (((M1 5 7) - (2 : Int32)) &&& (65535 : Int32)), .int (a1 &&& (255 : Int32))]) hC hw (ct_Y_store _ _ _ _ hk) m_75 mw_Y_store rfl ⟨rfl, rfl, Nat.le_of_ble_eq_true rfl, Nat.le_of_ble_eq_true rfl⟩ rfl rfl rfl hl.1 rfl (Nat.le_of_ble_eq_true rfl) d_Q_push_38 (fun H locs M2 hk hw => ?_)
  refine lv_aload_n hx hb d_Q_push_41 rfl (lv_at hl 0 rfl) ?_
  refine lv_aload_n hx hb d_Q_push_42 rfl (lv_at hl 0 rfl) ?_
  refine g_Q_sp hC hw m_28 d_Q_push_43 ?_
  refine lv_iconst (v := 2) hx hb d_Q_push_46 (by decide) ?_
  refine lv_isub hx hb d_Q_push_47 ?_
  refine lv_ldc (v := (65535 : Int32)) hx hb hC.1.2.2.2.1 (hC.1.2.2.2.2 _ m_27) d_Q_push_48 ?_
  refine lv_iand hx hb d_Q_push_50 ?_
  refine p_Q_sp hC hw m_28 d_Q_push_51 (fun H locs M3 e_M3 hw => ?_)
  have hk := hk M3 e_M3
  refine lv_aload_n hx hb d_Q_push_54 rfl (lv_at hl 0 rfl) ?_
  refine lv_dup hx hb d_Q_push_55 rfl ?_
  refine g_Q_time hC hw m_76 d_Q_push_56 ?_
  refine lv_iconst (v := 3) hx hb d_Q_push_59 (by decide) ?_
  refine lv_iadd hx hb d_Q_push_60 ?_
  refine p_Q_time hC hw m_76 d_Q_push_61 (fun H locs M4 e_M4 hw => ?_)
  have hk := hk M4 e_M4
  exact rt_v hQQ hx hb hr hlk hw ⟨rfl, hk⟩ d_Q_push_64
set_option maxHeartbeats 4000000 in
set_option maxRecDepth 100000 in
theorem ct_Q_takeInterrupt {l : Launch} {D : va_G} {cA : ClassId} {ad tb : Nat → Nat} (M0 : Mem) (a1 : Int32) (Q : Mem → Prop) (hk : wp_Q_takeInterrupt M0 a1 Q) : Ct l y_Q_takeInterrupt ws_Q_takeInterrupt rm_Q_takeInterrupt D (ceC ad cA) cA tb [.ref (ad 5), .int a1] M0 (QV Q) := by
  refine Ct.of (own := "TileConsole$Processor") (cc := b_Q_takeInterrupt) (maxL := 3) (ret := none) ceC_fix (by decide) rfl rfl (Nat.le_of_ble_eq_true rfl) ?_
  intro p e s m args below meth c A QQ ls H locs hQQ hC hr hlk hw hl
  have hx := hC.1.1
  have hb := hC.1.2.1
  unfold wp_Q_takeInterrupt at hk
  have hl : lv_has ls 3 [(0, .ref (ad 5)), (1, .int a1)] := hl
  refine lv_iconst (v := 0) hx hb d_Q_takeInterrupt_0 (by decide) ?_
  refine lv_istore_n (lv' := [(2, .int (0 : Int32)), (0, .ref (ad 5)), (1, .int a1)]) hx hb d_Q_takeInterrupt_1 rfl hl (by decide) rfl (fun ls hl => ?_)
  have hl1 : ∀ (n : Nat) (H : Heap) (locs : List Loc) (ls : Array Slot) (x1 : Int32), wp_Q_takeInterrupt_l1 M0 a1 Q n x1 → Wd D (ceC ad cA) A s H locs M0 → lv_has ls 3 [(0, .ref (ad 5)), (1, .int a1), (2, .int x1)] → W p l e rm_Q_takeInterrupt s m args below meth c H locs 0 0 QQ (F0 m 2 ls []) := by
    intro n
    induction n with
    | zero => intro H locs ls x1 hk; exact False.elim hk
    | succ n1 ih1 =>
      intro H locs ls x1 hk hw hl
      refine lv_iload_n hx hb d_Q_takeInterrupt_2 rfl (lv_at hl 2 rfl) ?_
      refine lv_iconst (v := 4) hx hb d_Q_takeInterrupt_3 (by decide) ?_
      have hj1 : ∀ (H : Heap) (locs : List Loc) (ls : Array Slot), wp_Q_takeInterrupt_j1 M0 x1 Q → Wd D (ceC ad cA) A s H locs M0 → lv_has ls 3 [(0, .ref (ad 5)), (1, .int a1), (2, .int x1)] → W p l e rm_Q_takeInterrupt s m args below meth c H locs 0 0 QQ (F0 m 21 ls []) := by
        intro H locs ls  hk hw hl
        unfold wp_Q_takeInterrupt_j1 at hk
        refine lv_aload_n hx hb d_Q_takeInterrupt_21 rfl (lv_at hl 0 rfl) ?_
        refine lv_iconst (v := 0) hx hb d_Q_takeInterrupt_22 (by decide) ?_
        refine p_Q_ime hC hw (Or.inl rfl) m_32 d_Q_takeInterrupt_23 (fun H locs M9 e_M9 hw => ?_)
        have hk := hk M9 e_M9
        refine lv_aload_n hx hb d_Q_takeInterrupt_26 rfl (lv_at hl 0 rfl) ?_
        refine g_Q_ports hC hw m_77 d_Q_takeInterrupt_27 ?_
        refine g_P_octets hC hw m_78 d_Q_takeInterrupt_30 ?_
        refine lv_bipush (v := 15) hx hb d_Q_takeInterrupt_33 (by decide) ?_
        refine lv_dup2_11 hx hb d_Q_takeInterrupt_35 rfl rfl ?_
        refine ld_8 (k := 15) hC hw (vin_lit rfl) (by decide) d_Q_takeInterrupt_36 ?_
        refine lv_iconst (v := 1) hx hb d_Q_takeInterrupt_37 (by decide) ?_
        refine lv_iload_n hx hb d_Q_takeInterrupt_38 rfl (lv_at hl 2 rfl) ?_
        refine lv_ishl hx hb d_Q_takeInterrupt_39 ?_
        refine lv_iconst (v := (-1)) hx hb d_Q_takeInterrupt_40 (by decide) ?_
        refine lv_ixor hx hb d_Q_takeInterrupt_41 ?_
        refine lv_iand hx hb d_Q_takeInterrupt_42 ?_
        refine st_8 (k := 15) hC hw (vin_lit rfl) (by decide) d_Q_takeInterrupt_43 (fun H locs M10 e_M10 hw => ?_)
        have hk := hk M10 e_M10
        refine lv_aload_n hx hb d_Q_takeInterrupt_44 rfl (lv_at hl 0 rfl) ?_
        refine lv_aload_n hx hb d_Q_takeInterrupt_45 rfl (lv_at hl 0 rfl) ?_
        refine g_Q_pc hC hw m_31 d_Q_takeInterrupt_46 ?_
        refine cl_Vv (j := 5) (As := [.int (M10 5 8)]) hC hw (ct_Q_push _ _ _ hk) m_79 mw_Q_push rfl ⟨rfl, rfl, Nat.le_of_ble_eq_true rfl, Nat.le_of_ble_eq_true rfl⟩ rfl rfl rfl hl.1 rfl (Nat.le_of_ble_eq_true rfl) d_Q_takeInterrupt_49 (fun H locs M11 hk hw => ?_)
        refine lv_aload_n hx hb d_Q_takeInterrupt_52 rfl (lv_at hl 0 rfl) ?_
        refine lv_bipush (v := 64) hx hb d_Q_takeInterrupt_53 (by decide) ?_
        refine lv_bipush (v := 8) hx hb d_Q_takeInterrupt_55 (by decide) ?_
        refine lv_iload_n hx hb d_Q_takeInterrupt_57 rfl (lv_at hl 2 rfl) ?_
        refine lv_imul hx hb d_Q_takeInterrupt_58 ?_
        refine lv_iadd hx hb d_Q_takeInterrupt_59 ?_
        refine p_Q_pc hC hw m_31 d_Q_takeInterrupt_60 (fun H locs M12 e_M12 hw => ?_)
        have hk := hk M12 e_M12
        refine lv_aload_n hx hb d_Q_takeInterrupt_63 rfl (lv_at hl 0 rfl) ?_
        refine lv_iconst (v := 5) hx hb d_Q_takeInterrupt_64 (by decide) ?_
        refine p_Q_time hC hw m_76 d_Q_takeInterrupt_65 (fun H locs M13 e_M13 hw => ?_)
        have hk := hk M13 e_M13
        refine lv_aload_n hx hb d_Q_takeInterrupt_68 rfl (lv_at hl 0 rfl) ?_
        refine lv_dup hx hb d_Q_takeInterrupt_69 rfl ?_
        refine g_Q_taken hC hw m_38 d_Q_takeInterrupt_70 ?_
        refine lv_iconst (v := 1) hx hb d_Q_takeInterrupt_73 (by decide) ?_
        refine lv_iadd hx hb d_Q_takeInterrupt_74 ?_
        refine p_Q_taken hC hw m_38 d_Q_takeInterrupt_75 (fun H locs M14 e_M14 hw => ?_)
        have hk := hk M14 e_M14
        exact rt_v hQQ hx hb hr hlk hw ⟨rfl, hk⟩ d_Q_takeInterrupt_78
      refine lv_icmp_ge (tgt := 21) hx hb d_Q_takeInterrupt_4 (by decide) (fun hc => ?_) (fun hc => ?_)
      · have hk := hk.1 hc
        exact hj1 _ _ _  hk hw (lv_sub hl [0, 1, 2] rfl)
      · have hk := hk.2 hc
        refine lv_iload_n hx hb d_Q_takeInterrupt_7 rfl (lv_at hl 1 rfl) ?_
        refine lv_iload_n hx hb d_Q_takeInterrupt_8 rfl (lv_at hl 2 rfl) ?_
        refine lv_ishr hx hb d_Q_takeInterrupt_9 ?_
        refine lv_iconst (v := 1) hx hb d_Q_takeInterrupt_10 (by decide) ?_
        refine lv_iand hx hb d_Q_takeInterrupt_11 ?_
        refine lv_if_ne (tgt := 21) hx hb d_Q_takeInterrupt_12 (by decide) (fun hc => ?_) (fun hc => ?_)
        · have hk := hk.1 hc
          exact hj1 _ _ _  hk hw (lv_sub hl [0, 1, 2] rfl)
        · have hk := hk.2 hc
          obtain ⟨x15, e_x15⟩ : ∃ y : Int32, y = x1 + (1 : Int32) := ⟨_, rfl⟩
          have hk := hk x15 e_x15
          refine lv_iinc (v := x15) (lv' := [(2, .int x15), (0, .ref (ad 5)), (1, .int a1)]) hx hb d_Q_takeInterrupt_15 hl (k := 2) rfl (by rw [e_x15]; rfl) (by decide) rfl (fun ls hl => ?_)
          refine lv_goto (tgt := 2) hx hb d_Q_takeInterrupt_18 (by decide) ?_
          exact ih1 _ _ _ _ hk hw (lv_sub hl [1, 2, 0] rfl)
  obtain ⟨n, hk⟩ := hk
  exact hl1 n _ _ _ _ hk hw (lv_sub hl [1, 2, 0] rfl)
