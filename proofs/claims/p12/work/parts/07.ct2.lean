set_option maxHeartbeats 4000000 in
set_option maxRecDepth 100000 in
theorem ct_P_moveTimer {l : Launch} {D : va_G} {cA : ClassId} {ad tb : Nat → Nat} (M0 : Mem) (Q : Mem → Prop) (hk : wp_P_moveTimer M0 Q) : Ct l y_P_moveTimer ws_P_moveTimer rm_P_moveTimer D (ceC ad cA) cA tb [.ref (ad 2)] M0 (QV Q) := by
  refine Ct.of (own := "TileConsole$Ports") (cc := b_P_moveTimer) (maxL := 2) (ret := none) ceC_fix (by decide) rfl rfl (Nat.le_of_ble_eq_true rfl) ?_
  intro p e s m args below meth c A QQ ls H locs hQQ hC hr hlk hw hl
  have hx := hC.1.1
  have hb := hC.1.2.1
  unfold wp_P_moveTimer at hk
  have hl : lv_has ls 2 [(0, .ref (ad 2))] := hl
  refine lv_aload_n hx hb d_P_moveTimer_0 rfl (lv_at hl 0 rfl) ?_
  refine g_P_octets hC hw m_10 d_P_moveTimer_1 ?_
  refine lv_bipush (v := 7) hx hb d_P_moveTimer_4 (by decide) ?_
  refine ld_8 (k := 7) hC hw (vin_lit rfl) (by decide) d_P_moveTimer_6 ?_
  refine lv_topi (fun x1 e_x1 => ?_)
  have hk := hk x1 e_x1
  refine lv_istore_n (lv' := [(1, .int x1), (0, .ref (ad 2))]) hx hb d_P_moveTimer_7 rfl hl (by decide) rfl (fun ls hl => ?_)
  refine lv_iload_n hx hb d_P_moveTimer_8 rfl (lv_at hl 0 rfl) ?_
  refine lv_iconst (v := 4) hx hb d_P_moveTimer_9 (by decide) ?_
  refine lv_iand hx hb d_P_moveTimer_10 ?_
  have hj1 : ∀ (H : Heap) (locs : List Loc) (ls : Array Slot), wp_P_moveTimer_j1 M0 Q → Wd D (ceC ad cA) A s H locs M0 → lv_has ls 2 [(0, .ref (ad 2)), (1, .int x1)] → W p l e rm_P_moveTimer s m args below meth c H locs 0 0 QQ (F0 m 29 ls []) := by
    intro H locs ls  hk hw hl
    unfold wp_P_moveTimer_j1 at hk
    exact rt_v hQQ hx hb hr hlk hw ⟨rfl, hk⟩ d_P_moveTimer_29
  refine lv_if_eq (tgt := 29) hx hb d_P_moveTimer_11 (by decide) (fun hc => ?_) (fun hc => ?_)
  · have hk := hk.1 hc
    exact hj1 _ _ _  hk hw (lv_sub hl [1, 0] rfl)
  · have hk := hk.2 hc
    refine lv_aload_n hx hb d_P_moveTimer_14 rfl (lv_at hl 1 rfl) ?_
    refine g_P_ticks hC hw m_16 d_P_moveTimer_15 ?_
    refine gs_0 hC hw m_80 d_P_moveTimer_18 ?_
    refine lv_iload_n hx hb d_P_moveTimer_21 rfl (lv_at hl 0 rfl) ?_
    refine lv_iconst (v := 3) hx hb d_P_moveTimer_22 (by decide) ?_
    refine lv_iand hx hb d_P_moveTimer_23 ?_
    obtain ⟨hin, hk⟩ := hk
    refine tl_0 hC hw hin rfl d_P_moveTimer_24 ?_
    refine lv_iand hx hb d_P_moveTimer_25 ?_
    refine lv_if_eq (tgt := 30) hx hb d_P_moveTimer_26 (by decide) (fun hc => ?_) (fun hc => ?_)
    · have hk := hk.1 hc
      refine lv_aload_n hx hb d_P_moveTimer_30 rfl (lv_at hl 1 rfl) ?_
      refine g_P_octets hC hw m_10 d_P_moveTimer_31 ?_
      refine lv_iconst (v := 5) hx hb d_P_moveTimer_34 (by decide) ?_
      refine ld_8 (k := 5) hC hw (vin_lit rfl) (by decide) d_P_moveTimer_35 ?_
      refine lv_sipush (v := 255) hx hb d_P_moveTimer_36 (by decide) ?_
      have hj2 : ∀ (H : Heap) (locs : List Loc) (ls : Array Slot) (M14 : Mem), wp_P_moveTimer_j2 M14 Q → Wd D (ceC ad cA) A s H locs M14 → lv_has ls 2 [(0, .ref (ad 2)), (1, .int x1)] → W p l e rm_P_moveTimer s m args below meth c H locs 0 0 QQ (F0 m 79 ls []) := by
        intro H locs ls M14 hk hw hl
        unfold wp_P_moveTimer_j2 at hk
        exact rt_v hQQ hx hb hr hlk hw ⟨rfl, hk⟩ d_P_moveTimer_79
      refine lv_icmp_ne (tgt := 69) hx hb d_P_moveTimer_39 (by decide) (fun hc => ?_) (fun hc => ?_)
      · have hk := hk.1 hc
        refine lv_aload_n hx hb d_P_moveTimer_69 rfl (lv_at hl 1 rfl) ?_
        refine g_P_octets hC hw m_10 d_P_moveTimer_70 ?_
        refine lv_iconst (v := 5) hx hb d_P_moveTimer_73 (by decide) ?_
        refine lv_dup2_11 hx hb d_P_moveTimer_74 rfl rfl ?_
        refine ld_8 (k := 5) hC hw (vin_lit rfl) (by decide) d_P_moveTimer_75 ?_
        refine lv_iconst (v := 1) hx hb d_P_moveTimer_76 (by decide) ?_
        refine lv_iadd hx hb d_P_moveTimer_77 ?_
        refine st_8 (k := 5) hC hw (vin_lit rfl) (by decide) d_P_moveTimer_78 (fun H locs M15 e_M15 hw => ?_)
        have hk := hk M15 e_M15
        exact hj2 _ _ _ _ hk hw (lv_sub hl [1, 0] rfl)
      · have hk := hk.2 hc
        refine lv_aload_n hx hb d_P_moveTimer_42 rfl (lv_at hl 1 rfl) ?_
        refine g_P_octets hC hw m_10 d_P_moveTimer_43 ?_
        refine lv_iconst (v := 5) hx hb d_P_moveTimer_46 (by decide) ?_
        refine lv_aload_n hx hb d_P_moveTimer_47 rfl (lv_at hl 1 rfl) ?_
        refine g_P_octets hC hw m_10 d_P_moveTimer_48 ?_
        refine lv_bipush (v := 6) hx hb d_P_moveTimer_51 (by decide) ?_
        refine ld_8 (k := 6) hC hw (vin_lit rfl) (by decide) d_P_moveTimer_53 ?_
        refine st_8 (k := 5) hC hw (vin_lit rfl) (by decide) d_P_moveTimer_54 (fun H locs M16 e_M16 hw => ?_)
        have hk := hk M16 e_M16
        refine lv_aload_n hx hb d_P_moveTimer_55 rfl (lv_at hl 1 rfl) ?_
        refine g_P_octets hC hw m_10 d_P_moveTimer_56 ?_
        refine lv_bipush (v := 15) hx hb d_P_moveTimer_59 (by decide) ?_
        refine lv_dup2_11 hx hb d_P_moveTimer_61 rfl rfl ?_
        refine ld_8 (k := 15) hC hw (vin_lit rfl) (by decide) d_P_moveTimer_62 ?_
        refine lv_iconst (v := 4) hx hb d_P_moveTimer_63 (by decide) ?_
        refine lv_ior hx hb d_P_moveTimer_64 ?_
        refine st_8 (k := 15) hC hw (vin_lit rfl) (by decide) d_P_moveTimer_65 (fun H locs M17 e_M17 hw => ?_)
        have hk := hk M17 e_M17
        refine lv_goto (tgt := 79) hx hb d_P_moveTimer_66 (by decide) ?_
        exact hj2 _ _ _ _ hk hw (lv_sub hl [1, 0] rfl)
    · have hk := hk.2 hc
      exact hj1 _ _ _  hk hw (lv_sub hl [1, 0] rfl)
set_option maxHeartbeats 4000000 in
set_option maxRecDepth 100000 in
theorem ct_P_moveDot {l : Launch} {D : va_G} {cA : ClassId} {ad tb : Nat → Nat} (M0 : Mem) (Q : Mem → Prop) (hk : wp_P_moveDot M0 Q) : Ct l y_P_moveDot ws_P_moveDot rm_P_moveDot D (ceC ad cA) cA tb [.ref (ad 2)] M0 (QV Q) := by
  refine Ct.of (own := "TileConsole$Ports") (cc := b_P_moveDot) (maxL := 1) (ret := none) ceC_fix (by decide) rfl rfl (Nat.le_of_ble_eq_true rfl) ?_
  intro p e s m args below meth c A QQ ls H locs hQQ hC hr hlk hw hl
  have hx := hC.1.1
  have hb := hC.1.2.1
  unfold wp_P_moveDot at hk
  have hl : lv_has ls 1 [(0, .ref (ad 2))] := hl
  refine lv_aload_n hx hb d_P_moveDot_0 rfl (lv_at hl 0 rfl) ?_
  refine g_P_octets hC hw m_10 d_P_moveDot_1 ?_
  refine lv_bipush (v := 64) hx hb d_P_moveDot_4 (by decide) ?_
  refine ld_8 (k := 64) hC hw (vin_lit rfl) (by decide) d_P_moveDot_6 ?_
  refine lv_sipush (v := 128) hx hb d_P_moveDot_7 (by decide) ?_
  refine lv_iand hx hb d_P_moveDot_10 ?_
  refine lv_if_ne (tgt := 15) hx hb d_P_moveDot_11 (by decide) (fun hc => ?_) (fun hc => ?_)
  · have hk := hk.1 hc
    refine lv_aload_n hx hb d_P_moveDot_15 rfl (lv_at hl 0 rfl) ?_
    refine lv_dup hx hb d_P_moveDot_16 rfl ?_
    refine g_P_dot hC hw m_12 d_P_moveDot_17 ?_
    refine lv_iconst (v := 1) hx hb d_P_moveDot_20 (by decide) ?_
    refine lv_iadd hx hb d_P_moveDot_21 ?_
    refine p_P_dot hC hw m_12 d_P_moveDot_22 (fun H locs M1 e_M1 hw => ?_)
    have hk := hk M1 e_M1
    refine lv_aload_n hx hb d_P_moveDot_25 rfl (lv_at hl 0 rfl) ?_
    refine g_P_dot hC hw m_12 d_P_moveDot_26 ?_
    refine lv_bipush (v := 114) hx hb d_P_moveDot_29 (by decide) ?_
    refine lv_icmp_ge (tgt := 35) hx hb d_P_moveDot_31 (by decide) (fun hc => ?_) (fun hc => ?_)
    · have hk := hk.1 hc
      refine lv_aload_n hx hb d_P_moveDot_35 rfl (lv_at hl 0 rfl) ?_
      refine lv_iconst (v := 0) hx hb d_P_moveDot_36 (by decide) ?_
      refine p_P_dot hC hw m_12 d_P_moveDot_37 (fun H locs M2 e_M2 hw => ?_)
      have hk := hk M2 e_M2
      refine lv_aload_n hx hb d_P_moveDot_40 rfl (lv_at hl 0 rfl) ?_
      refine lv_aload_n hx hb d_P_moveDot_41 rfl (lv_at hl 0 rfl) ?_
      refine g_P_ly hC hw m_11 d_P_moveDot_42 ?_
      refine lv_iconst (v := 1) hx hb d_P_moveDot_45 (by decide) ?_
      refine lv_iadd hx hb d_P_moveDot_46 ?_
      refine lv_sipush (v := 154) hx hb d_P_moveDot_47 (by decide) ?_
      have hj1 : ∀ (H : Heap) (locs : List Loc) (ls : Array Slot) (x11 : Int32), wp_P_moveDot_j1 M2 x11 Q → Wd D (ceC ad cA) A s H locs M2 → lv_has ls 1 [(0, .ref (ad 2))] → W p l e rm_P_moveDot s m args below meth c H locs 0 0 QQ (F0 m 63 ls [.int x11, .ref (ad 2)]) := by
        intro H locs ls x11 hk hw hl
        unfold wp_P_moveDot_j1 at hk
        refine p_P_ly hC hw m_11 d_P_moveDot_63 (fun H locs M12 e_M12 hw => ?_)
        have hk := hk M12 e_M12
        refine lv_aload_n hx hb d_P_moveDot_66 rfl (lv_at hl 0 rfl) ?_
        refine g_P_ly hC hw m_11 d_P_moveDot_67 ?_
        refine lv_sipush (v := 144) hx hb d_P_moveDot_70 (by decide) ?_
        have hj2 : ∀ (H : Heap) (locs : List Loc) (ls : Array Slot) (M16 : Mem), wp_P_moveDot_j2 M16 Q → Wd D (ceC ad cA) A s H locs M16 → lv_has ls 1 [(0, .ref (ad 2))] → W p l e rm_P_moveDot s m args below meth c H locs 0 0 QQ (F0 m 97 ls []) := by
          intro H locs ls M16 hk hw hl
          unfold wp_P_moveDot_j2 at hk
          exact rt_v hQQ hx hb hr hlk hw ⟨rfl, hk⟩ d_P_moveDot_97
        refine lv_icmp_ne (tgt := 97) hx hb d_P_moveDot_73 (by decide) (fun hc => ?_) (fun hc => ?_)
        · have hk := hk.1 hc
          exact hj2 _ _ _ _ hk hw (lv_sub hl [0] rfl)
        · have hk := hk.2 hc
          refine lv_aload_n hx hb d_P_moveDot_76 rfl (lv_at hl 0 rfl) ?_
          refine g_P_octets hC hw m_10 d_P_moveDot_77 ?_
          refine lv_bipush (v := 15) hx hb d_P_moveDot_80 (by decide) ?_
          refine lv_dup2_11 hx hb d_P_moveDot_82 rfl rfl ?_
          refine ld_8 (k := 15) hC hw (vin_lit rfl) (by decide) d_P_moveDot_83 ?_
          refine lv_iconst (v := 1) hx hb d_P_moveDot_84 (by decide) ?_
          refine lv_ior hx hb d_P_moveDot_85 ?_
          refine st_8 (k := 15) hC hw (vin_lit rfl) (by decide) d_P_moveDot_86 (fun H locs M17 e_M17 hw => ?_)
          have hk := hk M17 e_M17
          refine lv_aload_n hx hb d_P_moveDot_87 rfl (lv_at hl 0 rfl) ?_
          refine lv_dup hx hb d_P_moveDot_88 rfl ?_
          refine g_P_frames hC hw m_15 d_P_moveDot_89 ?_
          refine lv_iconst (v := 1) hx hb d_P_moveDot_92 (by decide) ?_
          refine lv_iadd hx hb d_P_moveDot_93 ?_
          refine p_P_frames hC hw m_15 d_P_moveDot_94 (fun H locs M18 e_M18 hw => ?_)
          have hk := hk M18 e_M18
          exact hj2 _ _ _ _ hk hw (lv_sub hl [0] rfl)
      refine lv_icmp_ge (tgt := 62) hx hb d_P_moveDot_50 (by decide) (fun hc => ?_) (fun hc => ?_)
      · have hk := hk.1 hc
        refine lv_iconst (v := 0) hx hb d_P_moveDot_62 (by decide) ?_
        exact hj1 _ _ _ _ hk hw (lv_sub hl [0] rfl)
      · have hk := hk.2 hc
        refine lv_aload_n hx hb d_P_moveDot_53 rfl (lv_at hl 0 rfl) ?_
        refine g_P_ly hC hw m_11 d_P_moveDot_54 ?_
        refine lv_iconst (v := 1) hx hb d_P_moveDot_57 (by decide) ?_
        refine lv_iadd hx hb d_P_moveDot_58 ?_
        refine lv_goto (tgt := 63) hx hb d_P_moveDot_59 (by decide) ?_
        exact hj1 _ _ _ _ hk hw (lv_sub hl [0] rfl)
    · have hk := hk.2 hc
      exact rt_v hQQ hx hb hr hlk hw ⟨rfl, hk⟩ d_P_moveDot_34
  · have hk := hk.2 hc
    exact rt_v hQQ hx hb hr hlk hw ⟨rfl, hk⟩ d_P_moveDot_14
set_option maxHeartbeats 4000000 in
set_option maxRecDepth 100000 in
theorem ct_P_rowSignals {l : Launch} {D : va_G} {cA : ClassId} {ad tb : Nat → Nat} (M0 : Mem) (Q : Int32 → Prop) (hk : wp_P_rowSignals M0 Q) : Ct l y_P_rowSignals ws_P_rowSignals rm_P_rowSignals D (ceC ad cA) cA tb [.ref (ad 2)] M0 (QIp M0 Q) := by
  refine Ct.of (own := "TileConsole$Ports") (cc := b_P_rowSignals) (maxL := 1) (ret := (some .boolean)) ceC_fix (by decide) rfl rfl (Nat.le_of_ble_eq_true rfl) ?_
  intro p e s m args below meth c A QQ ls H locs hQQ hC hr hlk hw hl
  have hx := hC.1.1
  have hb := hC.1.2.1
  unfold wp_P_rowSignals at hk
  have hl : lv_has ls 1 [(0, .ref (ad 2))] := hl
  refine lv_aload_n hx hb d_P_rowSignals_0 rfl (lv_at hl 0 rfl) ?_
  refine g_P_octets hC hw m_10 d_P_rowSignals_1 ?_
  refine lv_bipush (v := 65) hx hb d_P_rowSignals_4 (by decide) ?_
  refine ld_8 (k := 65) hC hw (vin_lit rfl) (by decide) d_P_rowSignals_6 ?_
  refine lv_bipush (v := 64) hx hb d_P_rowSignals_7 (by decide) ?_
  refine lv_iand hx hb d_P_rowSignals_9 ?_
  have hj1 : ∀ (H : Heap) (locs : List Loc) (ls : Array Slot) (x2 : Int32), wp_P_rowSignals_j1 x2 Q → Wd D (ceC ad cA) A s H locs M0 → lv_has ls 1 [(0, .ref (ad 2))] → W p l e rm_P_rowSignals s m args below meth c H locs 0 0 QQ (F0 m 32 ls [.int x2]) := by
    intro H locs ls x2 hk hw hl
    unfold wp_P_rowSignals_j1 at hk
    obtain ⟨hz, hk⟩ := hk
    exact rt_z hQQ hx hb hr hlk hw hz ⟨rfl, _, rfl, hk⟩ d_P_rowSignals_32
  have hj2 : ∀ (H : Heap) (locs : List Loc) (ls : Array Slot), wp_P_rowSignals_j2 Q → Wd D (ceC ad cA) A s H locs M0 → lv_has ls 1 [(0, .ref (ad 2))] → W p l e rm_P_rowSignals s m args below meth c H locs 0 0 QQ (F0 m 31 ls []) := by
    intro H locs ls  hk hw hl
    unfold wp_P_rowSignals_j2 at hk
    refine lv_iconst (v := 0) hx hb d_P_rowSignals_31 (by decide) ?_
    exact hj1 _ _ _ _ hk hw (lv_sub hl [0] rfl)
  refine lv_if_eq (tgt := 31) hx hb d_P_rowSignals_10 (by decide) (fun hc => ?_) (fun hc => ?_)
  · have hk := hk.1 hc
    exact hj2 _ _ _  hk hw (lv_sub hl [0] rfl)
  · have hk := hk.2 hc
    refine lv_aload_n hx hb d_P_rowSignals_13 rfl (lv_at hl 0 rfl) ?_
    refine g_P_ly hC hw m_11 d_P_rowSignals_14 ?_
    refine lv_aload_n hx hb d_P_rowSignals_17 rfl (lv_at hl 0 rfl) ?_
    refine g_P_octets hC hw m_10 d_P_rowSignals_18 ?_
    refine lv_bipush (v := 69) hx hb d_P_rowSignals_21 (by decide) ?_
    refine ld_8 (k := 69) hC hw (vin_lit rfl) (by decide) d_P_rowSignals_23 ?_
    refine lv_icmp_ne (tgt := 31) hx hb d_P_rowSignals_24 (by decide) (fun hc => ?_) (fun hc => ?_)
    · have hk := hk.1 hc
      exact hj2 _ _ _  hk hw (lv_sub hl [0] rfl)
    · have hk := hk.2 hc
      refine lv_iconst (v := 1) hx hb d_P_rowSignals_27 (by decide) ?_
      refine lv_goto (tgt := 32) hx hb d_P_rowSignals_28 (by decide) ?_
      exact hj1 _ _ _ _ hk hw (lv_sub hl [0] rfl)
set_option maxHeartbeats 4000000 in
set_option maxRecDepth 100000 in
theorem ct_P_stateSignals {l : Launch} {D : va_G} {cA : ClassId} {ad tb : Nat → Nat} (M0 : Mem) (Q : Int32 → Prop) (hk : wp_P_stateSignals M0 Q) : Ct l y_P_stateSignals ws_P_stateSignals rm_P_stateSignals D (ceC ad cA) cA tb [.ref (ad 2)] M0 (QIp M0 Q) := by
  refine Ct.of (own := "TileConsole$Ports") (cc := b_P_stateSignals) (maxL := 1) (ret := (some .boolean)) ceC_fix (by decide) rfl rfl (Nat.le_of_ble_eq_true rfl) ?_
  intro p e s m args below meth c A QQ ls H locs hQQ hC hr hlk hw hl
  have hx := hC.1.1
  have hb := hC.1.2.1
  unfold wp_P_stateSignals at hk
  have hl : lv_has ls 1 [(0, .ref (ad 2))] := hl
  refine lv_aload_n hx hb d_P_stateSignals_0 rfl (lv_at hl 0 rfl) ?_
  refine g_P_state hC hw m_13 d_P_stateSignals_1 ?_
  refine lv_iconst (v := 3) hx hb d_P_stateSignals_4 (by decide) ?_
  have hj1 : ∀ (H : Heap) (locs : List Loc) (ls : Array Slot) (x2 : Int32), wp_P_stateSignals_j1 x2 Q → Wd D (ceC ad cA) A s H locs M0 → lv_has ls 1 [(0, .ref (ad 2))] → W p l e rm_P_stateSignals s m args below meth c H locs 0 0 QQ (F0 m 31 ls [.int x2]) := by
    intro H locs ls x2 hk hw hl
    unfold wp_P_stateSignals_j1 at hk
    obtain ⟨hz, hk⟩ := hk
    exact rt_z hQQ hx hb hr hlk hw hz ⟨rfl, _, rfl, hk⟩ d_P_stateSignals_31
  have hj2 : ∀ (H : Heap) (locs : List Loc) (ls : Array Slot), wp_P_stateSignals_j2 Q → Wd D (ceC ad cA) A s H locs M0 → lv_has ls 1 [(0, .ref (ad 2))] → W p l e rm_P_stateSignals s m args below meth c H locs 0 0 QQ (F0 m 30 ls []) := by
    intro H locs ls  hk hw hl
    unfold wp_P_stateSignals_j2 at hk
    refine lv_iconst (v := 0) hx hb d_P_stateSignals_30 (by decide) ?_
    exact hj1 _ _ _ _ hk hw (lv_sub hl [0] rfl)
  refine lv_icmp_ge (tgt := 30) hx hb d_P_stateSignals_5 (by decide) (fun hc => ?_) (fun hc => ?_)
  · have hk := hk.1 hc
    exact hj2 _ _ _  hk hw (lv_sub hl [0] rfl)
  · have hk := hk.2 hc
    refine lv_aload_n hx hb d_P_stateSignals_8 rfl (lv_at hl 0 rfl) ?_
    refine g_P_octets hC hw m_10 d_P_stateSignals_9 ?_
    refine lv_bipush (v := 65) hx hb d_P_stateSignals_12 (by decide) ?_
    refine ld_8 (k := 65) hC hw (vin_lit rfl) (by decide) d_P_stateSignals_14 ?_
    refine lv_bipush (v := 8) hx hb d_P_stateSignals_15 (by decide) ?_
    refine lv_aload_n hx hb d_P_stateSignals_17 rfl (lv_at hl 0 rfl) ?_
    refine g_P_state hC hw m_13 d_P_stateSignals_18 ?_
    refine lv_ishl hx hb d_P_stateSignals_21 ?_
    refine lv_iand hx hb d_P_stateSignals_22 ?_
    refine lv_if_eq (tgt := 30) hx hb d_P_stateSignals_23 (by decide) (fun hc => ?_) (fun hc => ?_)
    · have hk := hk.1 hc
      exact hj2 _ _ _  hk hw (lv_sub hl [0] rfl)
    · have hk := hk.2 hc
      refine lv_iconst (v := 1) hx hb d_P_stateSignals_26 (by decide) ?_
      refine lv_goto (tgt := 31) hx hb d_P_stateSignals_27 (by decide) ?_
      exact hj1 _ _ _ _ hk hw (lv_sub hl [0] rfl)
set_option maxHeartbeats 4000000 in
set_option maxRecDepth 100000 in
theorem ct_P_lookAtSignal {l : Launch} {D : va_G} {cA : ClassId} {ad tb : Nat → Nat} (M0 : Mem) (Q : Mem → Prop) (hk : wp_P_lookAtSignal M0 Q) : Ct l y_P_lookAtSignal ws_P_lookAtSignal rm_P_lookAtSignal D (ceC ad cA) cA tb [.ref (ad 2)] M0 (QV Q) := by
  refine Ct.of (own := "TileConsole$Ports") (cc := b_P_lookAtSignal) (maxL := 2) (ret := none) ceC_fix (by decide) rfl rfl (Nat.le_of_ble_eq_true rfl) ?_
  intro p e s m args below meth c A QQ ls H locs hQQ hC hr hlk hw hl
  have hx := hC.1.1
  have hb := hC.1.2.1
  unfold wp_P_lookAtSignal at hk
  have hl : lv_has ls 2 [(0, .ref (ad 2))] := hl
  refine lv_aload_n hx hb d_P_lookAtSignal_0 rfl (lv_at hl 0 rfl) ?_
  refine g_P_octets hC hw m_10 d_P_lookAtSignal_1 ?_
  refine lv_bipush (v := 64) hx hb d_P_lookAtSignal_4 (by decide) ?_
  refine ld_8 (k := 64) hC hw (vin_lit rfl) (by decide) d_P_lookAtSignal_6 ?_
  refine lv_sipush (v := 128) hx hb d_P_lookAtSignal_7 (by decide) ?_
  refine lv_iand hx hb d_P_lookAtSignal_10 ?_
  have hj1 : ∀ (H : Heap) (locs : List Loc) (ls : Array Slot) (x11 : Int32), wp_P_lookAtSignal_j1 M0 x11 Q → Wd D (ceC ad cA) A s H locs M0 → lv_has ls 2 [(0, .ref (ad 2))] → W p l e rm_P_lookAtSignal s m args below meth c H locs 0 0 QQ (F0 m 33 ls [.int x11]) := by
    intro H locs ls x11 hk hw hl
    unfold wp_P_lookAtSignal_j1 at hk
    refine lv_istore_n (lv' := [(1, .int x11), (0, .ref (ad 2))]) hx hb d_P_lookAtSignal_33 rfl hl (by decide) rfl (fun ls hl => ?_)
    refine lv_iload_n hx hb d_P_lookAtSignal_34 rfl (lv_at hl 0 rfl) ?_
    have hj2 : ∀ (H : Heap) (locs : List Loc) (ls : Array Slot) (M15 : Mem), wp_P_lookAtSignal_j2 x11 M15 Q → Wd D (ceC ad cA) A s H locs M15 → lv_has ls 2 [(0, .ref (ad 2)), (1, .int x11)] → W p l e rm_P_lookAtSignal s m args below meth c H locs 0 0 QQ (F0 m 56 ls []) := by
      intro H locs ls M15 hk hw hl
      unfold wp_P_lookAtSignal_j2 at hk
      refine lv_aload_n hx hb d_P_lookAtSignal_56 rfl (lv_at hl 0 rfl) ?_
      refine lv_iload_n hx hb d_P_lookAtSignal_57 rfl (lv_at hl 1 rfl) ?_
      obtain ⟨hz, hk⟩ := hk
      refine p_P_signal hC hw hz m_17 d_P_lookAtSignal_58 (fun H locs M16 e_M16 hw => ?_)
      have hk := hk M16 e_M16
      exact rt_v hQQ hx hb hr hlk hw ⟨rfl, hk⟩ d_P_lookAtSignal_61
    refine lv_if_eq (tgt := 56) hx hb d_P_lookAtSignal_35 (by decide) (fun hc => ?_) (fun hc => ?_)
    · have hk := hk.1 hc
      exact hj2 _ _ _ _ hk hw (lv_sub hl [1, 0] rfl)
    · have hk := hk.2 hc
      refine lv_aload_n hx hb d_P_lookAtSignal_38 rfl (lv_at hl 1 rfl) ?_
      refine g_P_signal hC hw m_17 d_P_lookAtSignal_39 ?_
      refine lv_if_ne (tgt := 56) hx hb d_P_lookAtSignal_42 (by decide) (fun hc => ?_) (fun hc => ?_)
      · have hk := hk.1 hc
        exact hj2 _ _ _ _ hk hw (lv_sub hl [1, 0] rfl)
      · have hk := hk.2 hc
        refine lv_aload_n hx hb d_P_lookAtSignal_45 rfl (lv_at hl 1 rfl) ?_
        refine g_P_octets hC hw m_10 d_P_lookAtSignal_46 ?_
        refine lv_bipush (v := 15) hx hb d_P_lookAtSignal_49 (by decide) ?_
        refine lv_dup2_11 hx hb d_P_lookAtSignal_51 rfl rfl ?_
        refine ld_8 (k := 15) hC hw (vin_lit rfl) (by decide) d_P_lookAtSignal_52 ?_
        refine lv_iconst (v := 2) hx hb d_P_lookAtSignal_53 (by decide) ?_
        refine lv_ior hx hb d_P_lookAtSignal_54 ?_
        refine st_8 (k := 15) hC hw (vin_lit rfl) (by decide) d_P_lookAtSignal_55 (fun H locs M17 e_M17 hw => ?_)
        have hk := hk M17 e_M17
        exact hj2 _ _ _ _ hk hw (lv_sub hl [1, 0] rfl)
  have hj3 : ∀ (H : Heap) (locs : List Loc) (ls : Array Slot), wp_P_lookAtSignal_j3 M0 Q → Wd D (ceC ad cA) A s H locs M0 → lv_has ls 2 [(0, .ref (ad 2))] → W p l e rm_P_lookAtSignal s m args below meth c H locs 0 0 QQ (F0 m 32 ls []) := by
    intro H locs ls  hk hw hl
    unfold wp_P_lookAtSignal_j3 at hk
    refine lv_iconst (v := 0) hx hb d_P_lookAtSignal_32 (by decide) ?_
    exact hj1 _ _ _ _ hk hw (lv_sub hl [0] rfl)
  refine lv_if_eq (tgt := 32) hx hb d_P_lookAtSignal_11 (by decide) (fun hc => ?_) (fun hc => ?_)
  · have hk := hk.1 hc
    exact hj3 _ _ _  hk hw (lv_sub hl [0] rfl)
  · have hk := hk.2 hc
    refine lv_aload_n hx hb d_P_lookAtSignal_14 rfl (lv_at hl 0 rfl) ?_
    refine cl_Vip (j := 2) (As := []) hC hw (ct_P_rowSignals _  _ hk) m_81 mw_P_rowSignals rfl ⟨rfl, rfl, Nat.le_of_ble_eq_true rfl, Nat.le_of_ble_eq_true rfl⟩ rfl rfl rfl hl.1 rfl (Nat.le_of_ble_eq_true rfl) d_P_lookAtSignal_15 (fun H locs x18 hk hw => ?_)
    have hj4 : ∀ (H : Heap) (locs : List Loc) (ls : Array Slot), wp_P_lookAtSignal_j4 M0 Q → Wd D (ceC ad cA) A s H locs M0 → lv_has ls 2 [(0, .ref (ad 2))] → W p l e rm_P_lookAtSignal s m args below meth c H locs 0 0 QQ (F0 m 28 ls []) := by
      intro H locs ls  hk hw hl
      unfold wp_P_lookAtSignal_j4 at hk
      refine lv_iconst (v := 1) hx hb d_P_lookAtSignal_28 (by decide) ?_
      refine lv_goto (tgt := 33) hx hb d_P_lookAtSignal_29 (by decide) ?_
      exact hj1 _ _ _ _ hk hw (lv_sub hl [0] rfl)
    refine lv_if_ne (tgt := 28) hx hb d_P_lookAtSignal_18 (by decide) (fun hc => ?_) (fun hc => ?_)
    · have hk := hk.1 hc
      exact hj4 _ _ _  hk hw (lv_sub hl [0] rfl)
    · have hk := hk.2 hc
      refine lv_aload_n hx hb d_P_lookAtSignal_21 rfl (lv_at hl 0 rfl) ?_
      refine cl_Vip (j := 2) (As := []) hC hw (ct_P_stateSignals _  _ hk) m_82 mw_P_stateSignals rfl ⟨rfl, rfl, Nat.le_of_ble_eq_true rfl, Nat.le_of_ble_eq_true rfl⟩ rfl rfl rfl hl.1 rfl (Nat.le_of_ble_eq_true rfl) d_P_lookAtSignal_22 (fun H locs x20 hk hw => ?_)
      refine lv_if_eq (tgt := 32) hx hb d_P_lookAtSignal_25 (by decide) (fun hc => ?_) (fun hc => ?_)
      · have hk := hk.1 hc
        exact hj3 _ _ _  hk hw (lv_sub hl [0] rfl)
      · have hk := hk.2 hc
        exact hj4 _ _ _  hk hw (lv_sub hl [0] rfl)
set_option maxHeartbeats 4000000 in
set_option maxRecDepth 100000 in
theorem ct_P_pass {l : Launch} {D : va_G} {cA : ClassId} {ad tb : Nat → Nat} (M0 : Mem) (a1 : Int32) (Q : Mem → Prop) (hk : wp_P_pass M0 a1 Q) : Ct l y_P_pass ws_P_pass rm_P_pass D (ceC ad cA) cA tb [.ref (ad 2), .int a1] M0 (QV Q) := by
  refine Ct.of (own := "TileConsole$Ports") (cc := b_P_pass) (maxL := 3) (ret := none) ceC_fix (by decide) rfl rfl (Nat.le_of_ble_eq_true rfl) ?_
  intro p e s m args below meth c A QQ ls H locs hQQ hC hr hlk hw hl
  have hx := hC.1.1
  have hb := hC.1.2.1
  unfold wp_P_pass at hk
  have hl : lv_has ls 3 [(0, .ref (ad 2)), (1, .int a1)] := hl
  refine lv_iconst (v := 0) hx hb d_P_pass_0 (by decide) ?_
  refine lv_istore_n (lv' := [(2, .int (0 : Int32)), (0, .ref (ad 2)), (1, .int a1)]) hx hb d_P_pass_1 rfl hl (by decide) rfl (fun ls hl => ?_)
  have hl1 : ∀ (n : Nat) (H : Heap) (locs : List Loc) (ls : Array Slot) (x1 : Int32) (M2 : Mem), wp_P_pass_l1 a1 Q n x1 M2 → Wd D (ceC ad cA) A s H locs M2 → lv_has ls 3 [(0, .ref (ad 2)), (1, .int a1), (2, .int x1)] → W p l e rm_P_pass s m args below meth c H locs 0 0 QQ (F0 m 2 ls []) := by
    intro n
    induction n with
    | zero => intro H locs ls x1 M2 hk; exact False.elim hk
    | succ n1 ih1 =>
      intro H locs ls x1 M2 hk hw hl
      refine lv_iload_n hx hb d_P_pass_2 rfl (lv_at hl 2 rfl) ?_
      refine lv_iload_n hx hb d_P_pass_3 rfl (lv_at hl 1 rfl) ?_
      refine lv_icmp_ge (tgt := 42) hx hb d_P_pass_4 (by decide) (fun hc => ?_) (fun hc => ?_)
      · have hk := hk.1 hc
        exact rt_v hQQ hx hb hr hlk hw ⟨rfl, hk⟩ d_P_pass_42
      · have hk := hk.2 hc
        refine lv_aload_n hx hb d_P_pass_7 rfl (lv_at hl 0 rfl) ?_
        refine lv_aload_n hx hb d_P_pass_8 rfl (lv_at hl 0 rfl) ?_
        refine g_P_ticks hC hw m_16 d_P_pass_9 ?_
        refine lv_iconst (v := 1) hx hb d_P_pass_12 (by decide) ?_
        refine lv_iadd hx hb d_P_pass_13 ?_
        refine lv_ldc (v := (65535 : Int32)) hx hb hC.1.2.2.2.1 (hC.1.2.2.2.2 _ m_83) d_P_pass_14 ?_
        refine lv_iand hx hb d_P_pass_16 ?_
        refine p_P_ticks hC hw m_16 d_P_pass_17 (fun H locs M3 e_M3 hw => ?_)
        have hk := hk M3 e_M3
        refine lv_aload_n hx hb d_P_pass_20 rfl (lv_at hl 0 rfl) ?_
        refine cl_Vv (j := 2) (As := []) hC hw (ct_P_moveTimer _  _ hk) m_84 mw_P_moveTimer rfl ⟨rfl, rfl, Nat.le_of_ble_eq_true rfl, Nat.le_of_ble_eq_true rfl⟩ rfl rfl rfl hl.1 rfl (Nat.le_of_ble_eq_true rfl) d_P_pass_21 (fun H locs M4 hk hw => ?_)
        refine lv_aload_n hx hb d_P_pass_24 rfl (lv_at hl 0 rfl) ?_
        refine cl_Vv (j := 2) (As := []) hC hw (ct_P_moveDot _  _ hk) m_85 mw_P_moveDot rfl ⟨rfl, rfl, Nat.le_of_ble_eq_true rfl, Nat.le_of_ble_eq_true rfl⟩ rfl rfl rfl hl.1 rfl (Nat.le_of_ble_eq_true rfl) d_P_pass_25 (fun H locs M5 hk hw => ?_)
        refine lv_aload_n hx hb d_P_pass_28 rfl (lv_at hl 0 rfl) ?_
        refine cl_Vv (j := 2) (As := []) hC hw (ct_P_findState _  _ hk) m_18 mw_P_findState rfl ⟨rfl, rfl, Nat.le_of_ble_eq_true rfl, Nat.le_of_ble_eq_true rfl⟩ rfl rfl rfl hl.1 rfl (Nat.le_of_ble_eq_true rfl) d_P_pass_29 (fun H locs M6 hk hw => ?_)
        refine lv_aload_n hx hb d_P_pass_32 rfl (lv_at hl 0 rfl) ?_
        refine cl_Vv (j := 2) (As := []) hC hw (ct_P_lookAtSignal _  _ hk) m_86 mw_P_lookAtSignal rfl ⟨rfl, rfl, Nat.le_of_ble_eq_true rfl, Nat.le_of_ble_eq_true rfl⟩ rfl rfl rfl hl.1 rfl (Nat.le_of_ble_eq_true rfl) d_P_pass_33 (fun H locs M7 hk hw => ?_)
        obtain ⟨x8, e_x8⟩ : ∃ y : Int32, y = x1 + (1 : Int32) := ⟨_, rfl⟩
        have hk := hk x8 e_x8
        refine lv_iinc (v := x8) (lv' := [(2, .int x8), (0, .ref (ad 2)), (1, .int a1)]) hx hb d_P_pass_36 hl (k := 2) rfl (by rw [e_x8]; rfl) (by decide) rfl (fun ls hl => ?_)
        refine lv_goto (tgt := 2) hx hb d_P_pass_39 (by decide) ?_
        exact ih1 _ _ _ _ _ hk hw (lv_sub hl [1, 2, 0] rfl)
  obtain ⟨n, hk⟩ := hk
  exact hl1 n _ _ _ _ _ hk hw (lv_sub hl [1, 2, 0] rfl)
set_option maxHeartbeats 4000000 in
set_option maxRecDepth 100000 in
theorem ct_Q_passHalted {l : Launch} {D : va_G} {cA : ClassId} {ad tb : Nat → Nat} (M0 : Mem) (Q : Mem → Prop) (hk : wp_Q_passHalted M0 Q) : Ct l y_Q_passHalted ws_Q_passHalted rm_Q_passHalted D (ceC ad cA) cA tb [.ref (ad 5)] M0 (QV Q) := by
  refine Ct.of (own := "TileConsole$Processor") (cc := b_Q_passHalted) (maxL := 1) (ret := none) ceC_fix (by decide) rfl rfl (Nat.le_of_ble_eq_true rfl) ?_
  intro p e s m args below meth c A QQ ls H locs hQQ hC hr hlk hw hl
  have hx := hC.1.1
  have hb := hC.1.2.1
  unfold wp_Q_passHalted at hk
  have hl : lv_has ls 1 [(0, .ref (ad 5))] := hl
  refine lv_aload_n hx hb d_Q_passHalted_0 rfl (lv_at hl 0 rfl) ?_
  refine lv_dup hx hb d_Q_passHalted_1 rfl ?_
  refine g_Q_cycles hC hw m_36 d_Q_passHalted_2 ?_
  refine lv_iconst (v := 1) hx hb d_Q_passHalted_5 (by decide) ?_
  refine lv_iadd hx hb d_Q_passHalted_6 ?_
  refine p_Q_cycles hC hw m_36 d_Q_passHalted_7 (fun H locs M1 e_M1 hw => ?_)
  have hk := hk M1 e_M1
  refine lv_aload_n hx hb d_Q_passHalted_10 rfl (lv_at hl 0 rfl) ?_
  refine g_Q_ports hC hw m_77 d_Q_passHalted_11 ?_
  refine lv_iconst (v := 1) hx hb d_Q_passHalted_14 (by decide) ?_
  refine cl_Vv (j := 2) (As := [.int (1 : Int32)]) hC hw (ct_P_pass _ _ _ hk) m_87 mw_P_pass rfl ⟨rfl, rfl, Nat.le_of_ble_eq_true rfl, Nat.le_of_ble_eq_true rfl⟩ rfl rfl rfl hl.1 rfl (Nat.le_of_ble_eq_true rfl) d_Q_passHalted_15 (fun H locs M2 hk hw => ?_)
  exact rt_v hQQ hx hb hr hlk hw ⟨rfl, hk⟩ d_Q_passHalted_18
set_option maxHeartbeats 4000000 in
set_option maxRecDepth 100000 in
theorem ct_Q_fetch {l : Launch} {D : va_G} {cA : ClassId} {ad tb : Nat → Nat} (M0 : Mem) (Q : Int32 → Mem → Prop) (hk : wp_Q_fetch M0 Q) : Ct l y_Q_fetch ws_Q_fetch rm_Q_fetch D (ceC ad cA) cA tb [.ref (ad 5)] M0 (QI Q) := by
  refine Ct.of (own := "TileConsole$Processor") (cc := b_Q_fetch) (maxL := 2) (ret := (some .int)) ceC_fix (by decide) rfl rfl (Nat.le_of_ble_eq_true rfl) ?_
  intro p e s m args below meth c A QQ ls H locs hQQ hC hr hlk hw hl
  have hx := hC.1.1
  have hb := hC.1.2.1
  unfold wp_Q_fetch at hk
  have hl : lv_has ls 2 [(0, .ref (ad 5))] := hl
  refine lv_aload_n hx hb d_Q_fetch_0 rfl (lv_at hl 0 rfl) ?_
  refine g_Q_memory hC hw m_74 d_Q_fetch_1 ?_
  refine lv_aload_n hx hb d_Q_fetch_4 rfl (lv_at hl 0 rfl) ?_
  refine g_Q_pc hC hw m_31 d_Q_fetch_5 ?_
  refine cl_Vip (j := 3) (As := [.int (M0 5 8)]) hC hw (ct_Y_load _ _ _ hk) m_88 mw_Y_load rfl ⟨rfl, rfl, Nat.le_of_ble_eq_true rfl, Nat.le_of_ble_eq_true rfl⟩ rfl rfl rfl hl.1 rfl (Nat.le_of_ble_eq_true rfl) d_Q_fetch_8 (fun H locs x1 hk hw => ?_)
  refine lv_istore_n (lv' := [(1, .int x1), (0, .ref (ad 5))]) hx hb d_Q_fetch_11 rfl hl (by decide) rfl (fun ls hl => ?_)
  refine lv_aload_n hx hb d_Q_fetch_12 rfl (lv_at hl 1 rfl) ?_
  refine lv_aload_n hx hb d_Q_fetch_13 rfl (lv_at hl 1 rfl) ?_
  refine g_Q_pc hC hw m_31 d_Q_fetch_14 ?_
  refine lv_iconst (v := 1) hx hb d_Q_fetch_17 (by decide) ?_
  refine lv_iadd hx hb d_Q_fetch_18 ?_
  refine lv_ldc (v := (65535 : Int32)) hx hb hC.1.2.2.2.1 (hC.1.2.2.2.2 _ m_27) d_Q_fetch_19 ?_
  refine lv_iand hx hb d_Q_fetch_21 ?_
  refine p_Q_pc hC hw m_31 d_Q_fetch_22 (fun H locs M2 e_M2 hw => ?_)
  have hk := hk M2 e_M2
  refine lv_aload_n hx hb d_Q_fetch_25 rfl (lv_at hl 1 rfl) ?_
  refine lv_dup hx hb d_Q_fetch_26 rfl ?_
  refine g_Q_time hC hw m_76 d_Q_fetch_27 ?_
  refine lv_iconst (v := 1) hx hb d_Q_fetch_30 (by decide) ?_
  refine lv_iadd hx hb d_Q_fetch_31 ?_
  refine p_Q_time hC hw m_76 d_Q_fetch_32 (fun H locs M3 e_M3 hw => ?_)
  have hk := hk M3 e_M3
  refine lv_iload_n hx hb d_Q_fetch_35 rfl (lv_at hl 0 rfl) ?_
  exact rt_i hQQ hx hb hr hlk hw ⟨_, rfl, hk⟩ d_Q_fetch_36
set_option maxHeartbeats 4000000 in
set_option maxRecDepth 100000 in
theorem ct_Q_fetchWord {l : Launch} {D : va_G} {cA : ClassId} {ad tb : Nat → Nat} (M0 : Mem) (Q : Int32 → Mem → Prop) (hk : wp_Q_fetchWord M0 Q) : Ct l y_Q_fetchWord ws_Q_fetchWord rm_Q_fetchWord D (ceC ad cA) cA tb [.ref (ad 5)] M0 (QI Q) := by
  refine Ct.of (own := "TileConsole$Processor") (cc := b_Q_fetchWord) (maxL := 2) (ret := (some .int)) ceC_fix (by decide) rfl rfl (Nat.le_of_ble_eq_true rfl) ?_
  intro p e s m args below meth c A QQ ls H locs hQQ hC hr hlk hw hl
  have hx := hC.1.1
  have hb := hC.1.2.1
  unfold wp_Q_fetchWord at hk
  have hl : lv_has ls 2 [(0, .ref (ad 5))] := hl
  refine lv_aload_n hx hb d_Q_fetchWord_0 rfl (lv_at hl 0 rfl) ?_
  refine cl_Vi (j := 5) (As := []) hC hw (ct_Q_fetch _  _ hk) m_89 mw_Q_fetch rfl ⟨rfl, rfl, Nat.le_of_ble_eq_true rfl, Nat.le_of_ble_eq_true rfl⟩ rfl rfl rfl hl.1 rfl (Nat.le_of_ble_eq_true rfl) d_Q_fetchWord_1 (fun H locs x1 M2 hk hw => ?_)
  refine lv_istore_n (lv' := [(1, .int x1), (0, .ref (ad 5))]) hx hb d_Q_fetchWord_4 rfl hl (by decide) rfl (fun ls hl => ?_)
  refine lv_aload_n hx hb d_Q_fetchWord_5 rfl (lv_at hl 1 rfl) ?_
  refine cl_Vi (j := 5) (As := []) hC hw (ct_Q_fetch _  _ hk) m_89 mw_Q_fetch rfl ⟨rfl, rfl, Nat.le_of_ble_eq_true rfl, Nat.le_of_ble_eq_true rfl⟩ rfl rfl rfl hl.1 rfl (Nat.le_of_ble_eq_true rfl) d_Q_fetchWord_6 (fun H locs x3 M4 hk hw => ?_)
  refine lv_bipush (v := 8) hx hb d_Q_fetchWord_9 (by decide) ?_
  refine lv_ishl hx hb d_Q_fetchWord_11 ?_
  refine lv_iload_n hx hb d_Q_fetchWord_12 rfl (lv_at hl 0 rfl) ?_
  refine lv_ior hx hb d_Q_fetchWord_13 ?_
  exact rt_i hQQ hx hb hr hlk hw ⟨_, rfl, hk⟩ d_Q_fetchWord_14
set_option maxHeartbeats 4000000 in
set_option maxRecDepth 100000 in
theorem ct_Q_storeStackPointer {l : Launch} {D : va_G} {cA : ClassId} {ad tb : Nat → Nat} (M0 : Mem) (a1 : Int32) (Q : Mem → Prop) (hk : wp_Q_storeStackPointer M0 a1 Q) : Ct l y_Q_storeStackPointer ws_Q_storeStackPointer rm_Q_storeStackPointer D (ceC ad cA) cA tb [.ref (ad 5), .int a1] M0 (QV Q) := by
  refine Ct.of (own := "TileConsole$Processor") (cc := b_Q_storeStackPointer) (maxL := 2) (ret := none) ceC_fix (by decide) rfl rfl (Nat.le_of_ble_eq_true rfl) ?_
  intro p e s m args below meth c A QQ ls H locs hQQ hC hr hlk hw hl
  have hx := hC.1.1
  have hb := hC.1.2.1
  unfold wp_Q_storeStackPointer at hk
  have hl : lv_has ls 2 [(0, .ref (ad 5)), (1, .int a1)] := hl
  refine lv_aload_n hx hb d_Q_storeStackPointer_0 rfl (lv_at hl 0 rfl) ?_
  refine g_Q_memory hC hw m_74 d_Q_storeStackPointer_1 ?_
  refine lv_iload_n hx hb d_Q_storeStackPointer_4 rfl (lv_at hl 1 rfl) ?_
  refine lv_aload_n hx hb d_Q_storeStackPointer_5 rfl (lv_at hl 0 rfl) ?_
  refine g_Q_sp hC hw m_28 d_Q_storeStackPointer_6 ?_
  refine lv_sipush (v := 255) hx hb d_Q_storeStackPointer_9 (by decide) ?_
  refine lv_iand hx hb d_Q_storeStackPointer_12 ?_
  refine cl_Vv (j := 3) (As := [.int a1, .int ((M0 5 7) &&& (255 : Int32))]) hC hw (ct_Y_store _ _ _ _ hk) m_75 mw_Y_store rfl ⟨rfl, rfl, Nat.le_of_ble_eq_true rfl, Nat.le_of_ble_eq_true rfl⟩ rfl rfl rfl hl.1 rfl (Nat.le_of_ble_eq_true rfl) d_Q_storeStackPointer_13 (fun H locs M1 hk hw => ?_)
  refine lv_aload_n hx hb d_Q_storeStackPointer_16 rfl (lv_at hl 0 rfl) ?_
  refine g_Q_memory hC hw m_74 d_Q_storeStackPointer_17 ?_
  refine lv_iload_n hx hb d_Q_storeStackPointer_20 rfl (lv_at hl 1 rfl) ?_
  refine lv_iconst (v := 1) hx hb d_Q_storeStackPointer_21 (by decide) ?_
  refine lv_iadd hx hb d_Q_storeStackPointer_22 ?_
  refine lv_ldc (v := (65535 : Int32)) hx hb hC.1.2.2.2.1 (hC.1.2.2.2.2 _ m_27) d_Q_storeStackPointer_23 ?_
  refine lv_iand hx hb d_Q_storeStackPointer_25 ?_
  refine lv_aload_n hx hb d_Q_storeStackPointer_26 rfl (lv_at hl 0 rfl) ?_
  refine g_Q_sp hC hw m_28 d_Q_storeStackPointer_27 ?_
  refine lv_bipush (v := 8) hx hb d_Q_storeStackPointer_30 (by decide) ?_
  refine lv_ishr hx hb d_Q_storeStackPointer_32 ?_
  refine cl_Vv (j := 3) (As := [.int ((a1 + (1 : Int32)) &&& (65535 : Int32)), .int ((M1 5 7) >>> ((8 : Int32) &&& (31 : Int32)))]) hC hw (ct_Y_store _ _ _ _ hk) m_75 mw_Y_store rfl ⟨rfl, rfl, Nat.le_of_ble_eq_true rfl, Nat.le_of_ble_eq_true rfl⟩ rfl rfl rfl hl.1 rfl (Nat.le_of_ble_eq_true rfl) d_Q_storeStackPointer_33 (fun H locs M2 hk hw => ?_)
  refine lv_aload_n hx hb d_Q_storeStackPointer_36 rfl (lv_at hl 0 rfl) ?_
  refine lv_dup hx hb d_Q_storeStackPointer_37 rfl ?_
  refine g_Q_time hC hw m_76 d_Q_storeStackPointer_38 ?_
  refine lv_iconst (v := 2) hx hb d_Q_storeStackPointer_41 (by decide) ?_
  refine lv_iadd hx hb d_Q_storeStackPointer_42 ?_
  refine p_Q_time hC hw m_76 d_Q_storeStackPointer_43 (fun H locs M3 e_M3 hw => ?_)
  have hk := hk M3 e_M3
  exact rt_v hQQ hx hb hr hlk hw ⟨rfl, hk⟩ d_Q_storeStackPointer_46
set_option maxHeartbeats 4000000 in
set_option maxRecDepth 100000 in
theorem ct_Q_holds {l : Launch} {D : va_G} {cA : ClassId} {ad tb : Nat → Nat} (M0 : Mem) (a1 : Int32) (Q : Int32 → Prop) (hk : wp_Q_holds M0 a1 Q) : Ct l y_Q_holds ws_Q_holds rm_Q_holds D (ceC ad cA) cA tb [.ref (ad 5), .int a1] M0 (QIp M0 Q) := by
  refine Ct.of (own := "TileConsole$Processor") (cc := b_Q_holds) (maxL := 3) (ret := (some .boolean)) ceC_fix (by decide) rfl rfl (Nat.le_of_ble_eq_true rfl) ?_
  intro p e s m args below meth c A QQ ls H locs hQQ hC hr hlk hw hl
  have hx := hC.1.1
  have hb := hC.1.2.1
  unfold wp_Q_holds at hk
  have hl : lv_has ls 3 [(0, .ref (ad 5)), (1, .int a1)] := hl
  refine lv_aload_n hx hb d_Q_holds_0 rfl (lv_at hl 0 rfl) ?_
  refine g_Q_r hC hw m_26 d_Q_holds_1 ?_
  refine lv_bipush (v := 6) hx hb d_Q_holds_4 (by decide) ?_
  refine ld_17 (k := 6) hC hw (vin_lit rfl) (by decide) d_Q_holds_6 ?_
  refine lv_iload_n hx hb d_Q_holds_7 rfl (lv_at hl 1 rfl) ?_
  refine lv_iconst (v := 2) hx hb d_Q_holds_8 (by decide) ?_
  have hj1 : ∀ (H : Heap) (locs : List Loc) (ls : Array Slot) (x16 : Int32), wp_Q_holds_j1 M0 a1 x16 Q → Wd D (ceC ad cA) A s H locs M0 → lv_has ls 3 [(0, .ref (ad 5)), (1, .int a1)] → W p l e rm_Q_holds s m args below meth c H locs 0 0 QQ (F0 m 20 ls [.int x16, .int (M0 17 6)]) := by
    intro H locs ls x16 hk hw hl
    unfold wp_Q_holds_j1 at hk
    refine lv_iand hx hb d_Q_holds_20 ?_
    have hj2 : ∀ (H : Heap) (locs : List Loc) (ls : Array Slot) (x24 : Int32), wp_Q_holds_j2 a1 x24 Q → Wd D (ceC ad cA) A s H locs M0 → lv_has ls 3 [(0, .ref (ad 5)), (1, .int a1)] → W p l e rm_Q_holds s m args below meth c H locs 0 0 QQ (F0 m 29 ls [.int x24]) := by
      intro H locs ls x24 hk hw hl
      unfold wp_Q_holds_j2 at hk
      refine lv_istore_n (lv' := [(2, .int x24), (0, .ref (ad 5)), (1, .int a1)]) hx hb d_Q_holds_29 rfl hl (by decide) rfl (fun ls hl => ?_)
      refine lv_iload_n hx hb d_Q_holds_30 rfl (lv_at hl 0 rfl) ?_
      refine lv_iload_n hx hb d_Q_holds_31 rfl (lv_at hl 2 rfl) ?_
      refine lv_iconst (v := 1) hx hb d_Q_holds_32 (by decide) ?_
      refine lv_iand hx hb d_Q_holds_33 ?_
      have hj3 : ∀ (H : Heap) (locs : List Loc) (ls : Array Slot) (x28 : Int32), wp_Q_holds_j3 x24 x28 Q → Wd D (ceC ad cA) A s H locs M0 → lv_has ls 3 [(0, .ref (ad 5)), (1, .int a1), (2, .int x24)] → W p l e rm_Q_holds s m args below meth c H locs 0 0 QQ (F0 m 42 ls [.int x28, .int x24]) := by
        intro H locs ls x28 hk hw hl
        unfold wp_Q_holds_j3 at hk
        have hj4 : ∀ (H : Heap) (locs : List Loc) (ls : Array Slot) (x30 : Int32), wp_Q_holds_j4 x30 Q → Wd D (ceC ad cA) A s H locs M0 → lv_has ls 3 [(0, .ref (ad 5)), (1, .int a1), (2, .int x24)] → W p l e rm_Q_holds s m args below meth c H locs 0 0 QQ (F0 m 50 ls [.int x30]) := by
          intro H locs ls x30 hk hw hl
          unfold wp_Q_holds_j4 at hk
          obtain ⟨hz, hk⟩ := hk
          exact rt_z hQQ hx hb hr hlk hw hz ⟨rfl, _, rfl, hk⟩ d_Q_holds_50
        refine lv_icmp_ne (tgt := 49) hx hb d_Q_holds_42 (by decide) (fun hc => ?_) (fun hc => ?_)
        · have hk := hk.1 hc
          refine lv_iconst (v := 0) hx hb d_Q_holds_49 (by decide) ?_
          exact hj4 _ _ _ _ hk hw (lv_sub hl [0, 1, 2] rfl)
        · have hk := hk.2 hc
          refine lv_iconst (v := 1) hx hb d_Q_holds_45 (by decide) ?_
          refine lv_goto (tgt := 50) hx hb d_Q_holds_46 (by decide) ?_
          exact hj4 _ _ _ _ hk hw (lv_sub hl [0, 1, 2] rfl)
      refine lv_if_eq (tgt := 41) hx hb d_Q_holds_34 (by decide) (fun hc => ?_) (fun hc => ?_)
      · have hk := hk.1 hc
        refine lv_iconst (v := 0) hx hb d_Q_holds_41 (by decide) ?_
        exact hj3 _ _ _ _ hk hw (lv_sub hl [1, 2, 0] rfl)
      · have hk := hk.2 hc
        refine lv_iconst (v := 1) hx hb d_Q_holds_37 (by decide) ?_
        refine lv_goto (tgt := 42) hx hb d_Q_holds_38 (by decide) ?_
        exact hj3 _ _ _ _ hk hw (lv_sub hl [1, 2, 0] rfl)
    refine lv_if_eq (tgt := 28) hx hb d_Q_holds_21 (by decide) (fun hc => ?_) (fun hc => ?_)
    · have hk := hk.1 hc
      refine lv_iconst (v := 0) hx hb d_Q_holds_28 (by decide) ?_
      exact hj2 _ _ _ _ hk hw (lv_sub hl [0, 1] rfl)
    · have hk := hk.2 hc
      refine lv_iconst (v := 1) hx hb d_Q_holds_24 (by decide) ?_
      refine lv_goto (tgt := 29) hx hb d_Q_holds_25 (by decide) ?_
      exact hj2 _ _ _ _ hk hw (lv_sub hl [0, 1] rfl)
  refine lv_icmp_ge (tgt := 18) hx hb d_Q_holds_9 (by decide) (fun hc => ?_) (fun hc => ?_)
  · have hk := hk.1 hc
    refine lv_bipush (v := 16) hx hb d_Q_holds_18 (by decide) ?_
    exact hj1 _ _ _ _ hk hw (lv_sub hl [0, 1] rfl)
  · have hk := hk.2 hc
    refine lv_sipush (v := 128) hx hb d_Q_holds_12 (by decide) ?_
    refine lv_goto (tgt := 20) hx hb d_Q_holds_15 (by decide) ?_
    exact hj1 _ _ _ _ hk hw (lv_sub hl [0, 1] rfl)
set_option maxHeartbeats 4000000 in
set_option maxRecDepth 100000 in
theorem ct_Q_jump {l : Launch} {D : va_G} {cA : ClassId} {ad tb : Nat → Nat} (M0 : Mem) (a1 : Int32) (a2 : Int32) (Q : Mem → Prop) (hk : wp_Q_jump M0 a1 a2 Q) : Ct l y_Q_jump ws_Q_jump rm_Q_jump D (ceC ad cA) cA tb [.ref (ad 5), .int a1, .int a2] M0 (QV Q) := by
  refine Ct.of (own := "TileConsole$Processor") (cc := b_Q_jump) (maxL := 3) (ret := none) ceC_fix (by decide) rfl rfl (Nat.le_of_ble_eq_true rfl) ?_
  intro p e s m args below meth c A QQ ls H locs hQQ hC hr hlk hw hl
  have hx := hC.1.1
  have hb := hC.1.2.1
  unfold wp_Q_jump at hk
  have hl : lv_has ls 3 [(0, .ref (ad 5)), (1, .int a1), (2, .int a2)] := hl
  refine lv_iload_n hx hb d_Q_jump_0 rfl (lv_at hl 1 rfl) ?_
  have hj1 : ∀ (H : Heap) (locs : List Loc) (ls : Array Slot) (M4 : Mem), wp_Q_jump_j1 M4 Q → Wd D (ceC ad cA) A s H locs M4 → lv_has ls 3 [(0, .ref (ad 5)), (1, .int a1), (2, .int a2)] → W p l e rm_Q_jump s m args below meth c H locs 0 0 QQ (F0 m 22 ls []) := by
    intro H locs ls M4 hk hw hl
    unfold wp_Q_jump_j1 at hk
    exact rt_v hQQ hx hb hr hlk hw ⟨rfl, hk⟩ d_Q_jump_22
  refine lv_if_eq (tgt := 22) hx hb d_Q_jump_1 (by decide) (fun hc => ?_) (fun hc => ?_)
  · have hk := hk.1 hc
    exact hj1 _ _ _ _ hk hw (lv_sub hl [0, 1, 2] rfl)
  · have hk := hk.2 hc
    refine lv_aload_n hx hb d_Q_jump_4 rfl (lv_at hl 0 rfl) ?_
    refine lv_iload_n hx hb d_Q_jump_5 rfl (lv_at hl 2 rfl) ?_
    refine lv_ldc (v := (65535 : Int32)) hx hb hC.1.2.2.2.1 (hC.1.2.2.2.2 _ m_27) d_Q_jump_6 ?_
    refine lv_iand hx hb d_Q_jump_8 ?_
    refine p_Q_pc hC hw m_31 d_Q_jump_9 (fun H locs M5 e_M5 hw => ?_)
    have hk := hk M5 e_M5
    refine lv_aload_n hx hb d_Q_jump_12 rfl (lv_at hl 0 rfl) ?_
    refine lv_dup hx hb d_Q_jump_13 rfl ?_
    refine g_Q_time hC hw m_76 d_Q_jump_14 ?_
    refine lv_iconst (v := 1) hx hb d_Q_jump_17 (by decide) ?_
    refine lv_iadd hx hb d_Q_jump_18 ?_
    refine p_Q_time hC hw m_76 d_Q_jump_19 (fun H locs M6 e_M6 hw => ?_)
    have hk := hk M6 e_M6
    exact hj1 _ _ _ _ hk hw (lv_sub hl [0, 1, 2] rfl)
set_option maxHeartbeats 4000000 in
set_option maxRecDepth 100000 in
theorem ct_Q_pair {l : Launch} {D : va_G} {cA : ClassId} {ad tb : Nat → Nat} (M0 : Mem) (a1 : Int32) (Q : Int32 → Prop) (hk : wp_Q_pair M0 a1 Q) : Ct l y_Q_pair ws_Q_pair rm_Q_pair D (ceC ad cA) cA tb [.ref (ad 5), .int a1] M0 (QIp M0 Q) := by
  refine Ct.of (own := "TileConsole$Processor") (cc := b_Q_pair) (maxL := 2) (ret := (some .int)) ceC_fix (by decide) rfl rfl (Nat.le_of_ble_eq_true rfl) ?_
  intro p e s m args below meth c A QQ ls H locs hQQ hC hr hlk hw hl
  have hx := hC.1.1
  have hb := hC.1.2.1
  unfold wp_Q_pair at hk
  have hl : lv_has ls 2 [(0, .ref (ad 5)), (1, .int a1)] := hl
  refine lv_iload_n hx hb d_Q_pair_0 rfl (lv_at hl 1 rfl) ?_
  refine lv_iconst (v := 3) hx hb d_Q_pair_1 (by decide) ?_
  have hj1 : ∀ (H : Heap) (locs : List Loc) (ls : Array Slot) (x2 : Int32), wp_Q_pair_j1 x2 Q → Wd D (ceC ad cA) A s H locs M0 → lv_has ls 2 [(0, .ref (ad 5)), (1, .int a1)] → W p l e rm_Q_pair s m args below meth c H locs 0 0 QQ (F0 m 40 ls [.int x2]) := by
    intro H locs ls x2 hk hw hl
    unfold wp_Q_pair_j1 at hk
    exact rt_i hQQ hx hb hr hlk hw ⟨rfl, _, rfl, hk⟩ d_Q_pair_40
  refine lv_icmp_ne (tgt := 12) hx hb d_Q_pair_2 (by decide) (fun hc => ?_) (fun hc => ?_)
  · have hk := hk.1 hc
    refine lv_aload_n hx hb d_Q_pair_12 rfl (lv_at hl 0 rfl) ?_
    refine g_Q_r hC hw m_26 d_Q_pair_13 ?_
    refine lv_iconst (v := 2) hx hb d_Q_pair_16 (by decide) ?_
    refine lv_iload_n hx hb d_Q_pair_17 rfl (lv_at hl 1 rfl) ?_
    refine lv_imul hx hb d_Q_pair_18 ?_
    refine lv_bipush (v := 7) hx hb d_Q_pair_19 (by decide) ?_
    refine lv_iand hx hb d_Q_pair_21 ?_
    obtain ⟨hin, hk⟩ := hk
    refine ld_17 hC hw hin rfl d_Q_pair_22 ?_
    refine lv_bipush (v := 8) hx hb d_Q_pair_23 (by decide) ?_
    refine lv_ishl hx hb d_Q_pair_25 ?_
    refine lv_aload_n hx hb d_Q_pair_26 rfl (lv_at hl 0 rfl) ?_
    refine g_Q_r hC hw m_26 d_Q_pair_27 ?_
    refine lv_iconst (v := 2) hx hb d_Q_pair_30 (by decide) ?_
    refine lv_iload_n hx hb d_Q_pair_31 rfl (lv_at hl 1 rfl) ?_
    refine lv_imul hx hb d_Q_pair_32 ?_
    refine lv_iconst (v := 1) hx hb d_Q_pair_33 (by decide) ?_
    refine lv_iadd hx hb d_Q_pair_34 ?_
    refine lv_bipush (v := 7) hx hb d_Q_pair_35 (by decide) ?_
    refine lv_iand hx hb d_Q_pair_37 ?_
    obtain ⟨hin, hk⟩ := hk
    refine ld_17 hC hw hin rfl d_Q_pair_38 ?_
    refine lv_ior hx hb d_Q_pair_39 ?_
    exact hj1 _ _ _ _ hk hw (lv_sub hl [0, 1] rfl)
  · have hk := hk.2 hc
    refine lv_aload_n hx hb d_Q_pair_5 rfl (lv_at hl 0 rfl) ?_
    refine g_Q_sp hC hw m_28 d_Q_pair_6 ?_
    refine lv_goto (tgt := 40) hx hb d_Q_pair_9 (by decide) ?_
    exact hj1 _ _ _ _ hk hw (lv_sub hl [0, 1] rfl)
set_option maxHeartbeats 4000000 in
set_option maxRecDepth 100000 in
theorem ct_Q_addToHl {l : Launch} {D : va_G} {cA : ClassId} {ad tb : Nat → Nat} (M0 : Mem) (a1 : Int32) (Q : Mem → Prop) (hk : wp_Q_addToHl M0 a1 Q) : Ct l y_Q_addToHl ws_Q_addToHl rm_Q_addToHl D (ceC ad cA) cA tb [.ref (ad 5), .int a1] M0 (QV Q) := by
  refine Ct.of (own := "TileConsole$Processor") (cc := b_Q_addToHl) (maxL := 5) (ret := none) ceC_fix (by decide) rfl rfl (Nat.le_of_ble_eq_true rfl) ?_
  intro p e s m args below meth c A QQ ls H locs hQQ hC hr hlk hw hl
  have hx := hC.1.1
  have hb := hC.1.2.1
  unfold wp_Q_addToHl at hk
  have hl : lv_has ls 5 [(0, .ref (ad 5)), (1, .int a1)] := hl
  refine lv_aload_n hx hb d_Q_addToHl_0 rfl (lv_at hl 0 rfl) ?_
  refine lv_iconst (v := 2) hx hb d_Q_addToHl_1 (by decide) ?_
  refine cl_Vip (j := 5) (As := [.int (2 : Int32)]) hC hw (ct_Q_pair _ _ _ hk) m_90 mw_Q_pair rfl ⟨rfl, rfl, Nat.le_of_ble_eq_true rfl, Nat.le_of_ble_eq_true rfl⟩ rfl rfl rfl hl.1 rfl (Nat.le_of_ble_eq_true rfl) d_Q_addToHl_2 (fun H locs x1 hk hw => ?_)
  refine lv_istore_n (lv' := [(2, .int x1), (0, .ref (ad 5)), (1, .int a1)]) hx hb d_Q_addToHl_5 rfl hl (by decide) rfl (fun ls hl => ?_)
  refine lv_iload_n hx hb d_Q_addToHl_6 rfl (lv_at hl 0 rfl) ?_
  refine lv_sipush (v := 4095) hx hb d_Q_addToHl_7 (by decide) ?_
  refine lv_iand hx hb d_Q_addToHl_10 ?_
  refine lv_iload_n hx hb d_Q_addToHl_11 rfl (lv_at hl 2 rfl) ?_
  refine lv_sipush (v := 4095) hx hb d_Q_addToHl_12 (by decide) ?_
  refine lv_iand hx hb d_Q_addToHl_15 ?_
  refine lv_iadd hx hb d_Q_addToHl_16 ?_
  refine lv_sipush (v := 4095) hx hb d_Q_addToHl_17 (by decide) ?_
  have hj1 : ∀ (H : Heap) (locs : List Loc) (ls : Array Slot) (x11 : Int32), wp_Q_addToHl_j1 M0 a1 x1 x11 Q → Wd D (ceC ad cA) A s H locs M0 → lv_has ls 5 [(0, .ref (ad 5)), (1, .int a1), (2, .int x1)] → W p l e rm_Q_addToHl s m args below meth c H locs 0 0 QQ (F0 m 29 ls [.int x11]) := by
    intro H locs ls x11 hk hw hl
    unfold wp_Q_addToHl_j1 at hk
    refine lv_istore_n (lv' := [(3, .int x11), (0, .ref (ad 5)), (1, .int a1), (2, .int x1)]) hx hb d_Q_addToHl_29 rfl hl (by decide) rfl (fun ls hl => ?_)
    refine lv_iload_n hx hb d_Q_addToHl_30 rfl (lv_at hl 3 rfl) ?_
    refine lv_iload_n hx hb d_Q_addToHl_31 rfl (lv_at hl 2 rfl) ?_
    refine lv_iadd hx hb d_Q_addToHl_32 ?_
    refine lv_ldc (v := (65535 : Int32)) hx hb hC.1.2.2.2.1 (hC.1.2.2.2.2 _ m_27) d_Q_addToHl_33 ?_
    have hj2 : ∀ (H : Heap) (locs : List Loc) (ls : Array Slot) (x16 : Int32), wp_Q_addToHl_j2 M0 a1 x1 x11 x16 Q → Wd D (ceC ad cA) A s H locs M0 → lv_has ls 5 [(0, .ref (ad 5)), (1, .int a1), (2, .int x1), (3, .int x11)] → W p l e rm_Q_addToHl s m args below meth c H locs 0 0 QQ (F0 m 44 ls [.int x16]) := by
      intro H locs ls x16 hk hw hl
      unfold wp_Q_addToHl_j2 at hk
      refine lv_istore (lv' := [(4, .int x16), (0, .ref (ad 5)), (1, .int a1), (2, .int x1), (3, .int x11)]) hx hb d_Q_addToHl_44 hl (by decide) rfl (fun ls hl => ?_)
      refine lv_aload_n hx hb d_Q_addToHl_46 rfl (lv_at hl 1 rfl) ?_
      refine g_Q_r hC hw m_26 d_Q_addToHl_47 ?_
      refine lv_bipush (v := 6) hx hb d_Q_addToHl_50 (by decide) ?_
      refine lv_aload_n hx hb d_Q_addToHl_52 rfl (lv_at hl 1 rfl) ?_
      refine g_Q_r hC hw m_26 d_Q_addToHl_53 ?_
      refine lv_bipush (v := 6) hx hb d_Q_addToHl_56 (by decide) ?_
      refine ld_17 (k := 6) hC hw (vin_lit rfl) (by decide) d_Q_addToHl_58 ?_
      refine lv_sipush (v := 128) hx hb d_Q_addToHl_59 (by decide) ?_
      refine lv_iand hx hb d_Q_addToHl_62 ?_
      refine lv_iload_n hx hb d_Q_addToHl_63 rfl (lv_at hl 4 rfl) ?_
      refine lv_ior hx hb d_Q_addToHl_64 ?_
      refine lv_iload hx hb d_Q_addToHl_65 (lv_at hl 0 rfl) ?_
      refine lv_ior hx hb d_Q_addToHl_67 ?_
      refine st_17 (k := 6) hC hw (vin_lit rfl) (by decide) d_Q_addToHl_68 (fun H locs M17 e_M17 hw => ?_)
      have hk := hk M17 e_M17
      refine lv_aload_n hx hb d_Q_addToHl_69 rfl (lv_at hl 1 rfl) ?_
      refine lv_iconst (v := 2) hx hb d_Q_addToHl_70 (by decide) ?_
      refine lv_iload_n hx hb d_Q_addToHl_71 rfl (lv_at hl 3 rfl) ?_
      refine lv_iload_n hx hb d_Q_addToHl_72 rfl (lv_at hl 2 rfl) ?_
      refine lv_iadd hx hb d_Q_addToHl_73 ?_
      refine cl_Vv (j := 5) (As := [.int (2 : Int32), .int (x1 + a1)]) hC hw (ct_Q_setPair _ _ _ _ hk) m_29 mw_Q_setPair rfl ⟨rfl, rfl, Nat.le_of_ble_eq_true rfl, Nat.le_of_ble_eq_true rfl⟩ rfl rfl rfl hl.1 rfl (Nat.le_of_ble_eq_true rfl) d_Q_addToHl_74 (fun H locs M18 hk hw => ?_)
      refine lv_aload_n hx hb d_Q_addToHl_77 rfl (lv_at hl 1 rfl) ?_
      refine lv_dup hx hb d_Q_addToHl_78 rfl ?_
      refine g_Q_time hC hw m_76 d_Q_addToHl_79 ?_
      refine lv_iconst (v := 1) hx hb d_Q_addToHl_82 (by decide) ?_
      refine lv_iadd hx hb d_Q_addToHl_83 ?_
      refine p_Q_time hC hw m_76 d_Q_addToHl_84 (fun H locs M19 e_M19 hw => ?_)
      have hk := hk M19 e_M19
      exact rt_v hQQ hx hb hr hlk hw ⟨rfl, hk⟩ d_Q_addToHl_87
    refine lv_icmp_le (tgt := 43) hx hb d_Q_addToHl_35 (by decide) (fun hc => ?_) (fun hc => ?_)
    · have hk := hk.1 hc
      refine lv_iconst (v := 0) hx hb d_Q_addToHl_43 (by decide) ?_
      exact hj2 _ _ _ _ hk hw (lv_sub hl [1, 2, 3, 0] rfl)
    · have hk := hk.2 hc
      refine lv_bipush (v := 16) hx hb d_Q_addToHl_38 (by decide) ?_
      refine lv_goto (tgt := 44) hx hb d_Q_addToHl_40 (by decide) ?_
      exact hj2 _ _ _ _ hk hw (lv_sub hl [1, 2, 3, 0] rfl)
  refine lv_icmp_le (tgt := 28) hx hb d_Q_addToHl_20 (by decide) (fun hc => ?_) (fun hc => ?_)
  · have hk := hk.1 hc
    refine lv_iconst (v := 0) hx hb d_Q_addToHl_28 (by decide) ?_
    exact hj1 _ _ _ _ hk hw (lv_sub hl [1, 2, 0] rfl)
  · have hk := hk.2 hc
    refine lv_bipush (v := 32) hx hb d_Q_addToHl_23 (by decide) ?_
    refine lv_goto (tgt := 29) hx hb d_Q_addToHl_25 (by decide) ?_
    exact hj1 _ _ _ _ hk hw (lv_sub hl [1, 2, 0] rfl)
set_option maxHeartbeats 4000000 in
set_option maxRecDepth 100000 in
theorem ct_Q_copyA {l : Launch} {D : va_G} {cA : ClassId} {ad tb : Nat → Nat} (M0 : Mem) (a1 : Int32) (a2 : Int32) (Q : Mem → Prop) (hk : wp_Q_copyA M0 a1 a2 Q) : Ct l y_Q_copyA ws_Q_copyA rm_Q_copyA D (ceC ad cA) cA tb [.ref (ad 5), .int a1, .int a2] M0 (QV Q) := by
  refine Ct.of (own := "TileConsole$Processor") (cc := b_Q_copyA) (maxL := 3) (ret := none) ceC_fix (by decide) rfl rfl (Nat.le_of_ble_eq_true rfl) ?_
  intro p e s m args below meth c A QQ ls H locs hQQ hC hr hlk hw hl
  have hx := hC.1.1
  have hb := hC.1.2.1
  unfold wp_Q_copyA at hk
  have hl : lv_has ls 3 [(0, .ref (ad 5)), (1, .int a1), (2, .int a2)] := hl
  refine lv_aload_n hx hb d_Q_copyA_0 rfl (lv_at hl 0 rfl) ?_
  refine lv_dup hx hb d_Q_copyA_1 rfl ?_
  refine g_Q_time hC hw m_76 d_Q_copyA_2 ?_
  refine lv_iconst (v := 1) hx hb d_Q_copyA_5 (by decide) ?_
  refine lv_iadd hx hb d_Q_copyA_6 ?_
  refine p_Q_time hC hw m_76 d_Q_copyA_7 (fun H locs M1 e_M1 hw => ?_)
  have hk := hk M1 e_M1
  refine lv_iload_n hx hb d_Q_copyA_10 rfl (lv_at hl 2 rfl) ?_
  have hj1 : ∀ (H : Heap) (locs : List Loc) (ls : Array Slot) (M6 : Mem), wp_Q_copyA_j1 M6 Q → Wd D (ceC ad cA) A s H locs M6 → lv_has ls 3 [(0, .ref (ad 5)), (1, .int a1), (2, .int a2)] → W p l e rm_Q_copyA s m args below meth c H locs 0 0 QQ (F0 m 47 ls []) := by
    intro H locs ls M6 hk hw hl
    unfold wp_Q_copyA_j1 at hk
    exact rt_v hQQ hx hb hr hlk hw ⟨rfl, hk⟩ d_Q_copyA_47
  refine lv_if_eq (tgt := 32) hx hb d_Q_copyA_11 (by decide) (fun hc => ?_) (fun hc => ?_)
  · have hk := hk.1 hc
    refine lv_aload_n hx hb d_Q_copyA_32 rfl (lv_at hl 0 rfl) ?_
    refine g_Q_memory hC hw m_74 d_Q_copyA_33 ?_
    refine lv_iload_n hx hb d_Q_copyA_36 rfl (lv_at hl 1 rfl) ?_
    refine lv_aload_n hx hb d_Q_copyA_37 rfl (lv_at hl 0 rfl) ?_
    refine g_Q_r hC hw m_26 d_Q_copyA_38 ?_
    refine lv_bipush (v := 7) hx hb d_Q_copyA_41 (by decide) ?_
    refine ld_17 (k := 7) hC hw (vin_lit rfl) (by decide) d_Q_copyA_43 ?_
    refine cl_Vv (j := 3) (As := [.int a1, .int (M1 17 7)]) hC hw (ct_Y_store _ _ _ _ hk) m_75 mw_Y_store rfl ⟨rfl, rfl, Nat.le_of_ble_eq_true rfl, Nat.le_of_ble_eq_true rfl⟩ rfl rfl rfl hl.1 rfl (Nat.le_of_ble_eq_true rfl) d_Q_copyA_44 (fun H locs M7 hk hw => ?_)
    exact hj1 _ _ _ _ hk hw (lv_sub hl [0, 1, 2] rfl)
  · have hk := hk.2 hc
    refine lv_aload_n hx hb d_Q_copyA_14 rfl (lv_at hl 0 rfl) ?_
    refine g_Q_r hC hw m_26 d_Q_copyA_15 ?_
    refine lv_bipush (v := 7) hx hb d_Q_copyA_18 (by decide) ?_
    refine lv_aload_n hx hb d_Q_copyA_20 rfl (lv_at hl 0 rfl) ?_
    refine g_Q_memory hC hw m_74 d_Q_copyA_21 ?_
    refine lv_iload_n hx hb d_Q_copyA_24 rfl (lv_at hl 1 rfl) ?_
    refine cl_Vip (j := 3) (As := [.int a1]) hC hw (ct_Y_load _ _ _ hk) m_88 mw_Y_load rfl ⟨rfl, rfl, Nat.le_of_ble_eq_true rfl, Nat.le_of_ble_eq_true rfl⟩ rfl rfl rfl hl.1 rfl (Nat.le_of_ble_eq_true rfl) d_Q_copyA_25 (fun H locs x8 hk hw => ?_)
    refine st_17 (k := 7) hC hw (vin_lit rfl) (by decide) d_Q_copyA_28 (fun H locs M9 e_M9 hw => ?_)
    have hk := hk M9 e_M9
    refine lv_goto (tgt := 47) hx hb d_Q_copyA_29 (by decide) ?_
    exact hj1 _ _ _ _ hk hw (lv_sub hl [0, 1, 2] rfl)
set_option maxHeartbeats 4000000 in
set_option maxRecDepth 100000 in
theorem ct_Q_octetAt {l : Launch} {D : va_G} {cA : ClassId} {ad tb : Nat → Nat} (M0 : Mem) (a1 : Int32) (Q : Int32 → Mem → Prop) (hk : wp_Q_octetAt M0 a1 Q) : Ct l y_Q_octetAt ws_Q_octetAt rm_Q_octetAt D (ceC ad cA) cA tb [.ref (ad 5), .int a1] M0 (QI Q) := by
  refine Ct.of (own := "TileConsole$Processor") (cc := b_Q_octetAt) (maxL := 2) (ret := (some .int)) ceC_fix (by decide) rfl rfl (Nat.le_of_ble_eq_true rfl) ?_
  intro p e s m args below meth c A QQ ls H locs hQQ hC hr hlk hw hl
  have hx := hC.1.1
  have hb := hC.1.2.1
  unfold wp_Q_octetAt at hk
  have hl : lv_has ls 2 [(0, .ref (ad 5)), (1, .int a1)] := hl
  refine lv_iload_n hx hb d_Q_octetAt_0 rfl (lv_at hl 1 rfl) ?_
  refine lv_bipush (v := 6) hx hb d_Q_octetAt_1 (by decide) ?_
  refine lv_icmp_eq (tgt := 16) hx hb d_Q_octetAt_3 (by decide) (fun hc => ?_) (fun hc => ?_)
  · have hk := hk.1 hc
    refine lv_aload_n hx hb d_Q_octetAt_16 rfl (lv_at hl 0 rfl) ?_
    refine lv_dup hx hb d_Q_octetAt_17 rfl ?_
    refine g_Q_time hC hw m_76 d_Q_octetAt_18 ?_
    refine lv_iconst (v := 1) hx hb d_Q_octetAt_21 (by decide) ?_
    refine lv_iadd hx hb d_Q_octetAt_22 ?_
    refine p_Q_time hC hw m_76 d_Q_octetAt_23 (fun H locs M1 e_M1 hw => ?_)
    have hk := hk M1 e_M1
    refine lv_aload_n hx hb d_Q_octetAt_26 rfl (lv_at hl 0 rfl) ?_
    refine g_Q_memory hC hw m_74 d_Q_octetAt_27 ?_
    refine lv_aload_n hx hb d_Q_octetAt_30 rfl (lv_at hl 0 rfl) ?_
    refine lv_iconst (v := 2) hx hb d_Q_octetAt_31 (by decide) ?_
    refine cl_Vip (j := 5) (As := [.int (2 : Int32)]) hC hw (ct_Q_pair _ _ _ hk) m_90 mw_Q_pair rfl ⟨rfl, rfl, Nat.le_of_ble_eq_true rfl, Nat.le_of_ble_eq_true rfl⟩ rfl rfl rfl hl.1 rfl (Nat.le_of_ble_eq_true rfl) d_Q_octetAt_32 (fun H locs x2 hk hw => ?_)
    refine cl_Vip (j := 3) (As := [.int x2]) hC hw (ct_Y_load _ _ _ hk) m_88 mw_Y_load rfl ⟨rfl, rfl, Nat.le_of_ble_eq_true rfl, Nat.le_of_ble_eq_true rfl⟩ rfl rfl rfl hl.1 rfl (Nat.le_of_ble_eq_true rfl) d_Q_octetAt_35 (fun H locs x3 hk hw => ?_)
    exact rt_i hQQ hx hb hr hlk hw ⟨_, rfl, hk⟩ d_Q_octetAt_38
  · have hk := hk.2 hc
    refine lv_aload_n hx hb d_Q_octetAt_6 rfl (lv_at hl 0 rfl) ?_
    refine g_Q_r hC hw m_26 d_Q_octetAt_7 ?_
    refine lv_iload_n hx hb d_Q_octetAt_10 rfl (lv_at hl 1 rfl) ?_
    refine lv_bipush (v := 7) hx hb d_Q_octetAt_11 (by decide) ?_
    refine lv_iand hx hb d_Q_octetAt_13 ?_
    obtain ⟨hin, hk⟩ := hk
    refine ld_17 hC hw hin rfl d_Q_octetAt_14 ?_
    exact rt_i hQQ hx hb hr hlk hw ⟨_, rfl, hk⟩ d_Q_octetAt_15
set_option maxHeartbeats 4000000 in
set_option maxRecDepth 100000 in
theorem ct_Q_zero {l : Launch} {D : va_G} {cA : ClassId} {ad tb : Nat → Nat} (M0 : Mem) (a1 : Int32) (Q : Int32 → Prop) (hk : wp_Q_zero M0 a1 Q) : Ct l y_Q_zero ws_Q_zero rm_Q_zero D (ceC ad cA) cA tb [.int a1] M0 (QIp M0 Q) := by
  refine Ct.of (own := "TileConsole$Processor") (cc := b_Q_zero) (maxL := 1) (ret := (some .int)) ceC_fix (by decide) rfl rfl (Nat.le_of_ble_eq_true rfl) ?_
  intro p e s m args below meth c A QQ ls H locs hQQ hC hr hlk hw hl
  have hx := hC.1.1
  have hb := hC.1.2.1
  unfold wp_Q_zero at hk
  have hl : lv_has ls 1 [(0, .int a1)] := hl
  refine lv_iload_n hx hb d_Q_zero_0 rfl (lv_at hl 0 rfl) ?_
  have hj1 : ∀ (H : Heap) (locs : List Loc) (ls : Array Slot) (x2 : Int32), wp_Q_zero_j1 x2 Q → Wd D (ceC ad cA) A s H locs M0 → lv_has ls 1 [(0, .int a1)] → W p l e rm_Q_zero s m args below meth c H locs 0 0 QQ (F0 m 11 ls [.int x2]) := by
    intro H locs ls x2 hk hw hl
    unfold wp_Q_zero_j1 at hk
    exact rt_i hQQ hx hb hr hlk hw ⟨rfl, _, rfl, hk⟩ d_Q_zero_11
  refine lv_if_ne (tgt := 10) hx hb d_Q_zero_1 (by decide) (fun hc => ?_) (fun hc => ?_)
  · have hk := hk.1 hc
    refine lv_iconst (v := 0) hx hb d_Q_zero_10 (by decide) ?_
    exact hj1 _ _ _ _ hk hw (lv_sub hl [0] rfl)
  · have hk := hk.2 hc
    refine lv_sipush (v := 128) hx hb d_Q_zero_4 (by decide) ?_
    refine lv_goto (tgt := 11) hx hb d_Q_zero_7 (by decide) ?_
    exact hj1 _ _ _ _ hk hw (lv_sub hl [0] rfl)
set_option maxHeartbeats 4000000 in
set_option maxRecDepth 100000 in
theorem ct_Q_increased {l : Launch} {D : va_G} {cA : ClassId} {ad tb : Nat → Nat} (M0 : Mem) (a1 : Int32) (Q : Int32 → Mem → Prop) (hk : wp_Q_increased M0 a1 Q) : Ct l y_Q_increased ws_Q_increased rm_Q_increased D (ceC ad cA) cA tb [.ref (ad 5), .int a1] M0 (QI Q) := by
  refine Ct.of (own := "TileConsole$Processor") (cc := b_Q_increased) (maxL := 3) (ret := (some .int)) ceC_fix (by decide) rfl rfl (Nat.le_of_ble_eq_true rfl) ?_
  intro p e s m args below meth c A QQ ls H locs hQQ hC hr hlk hw hl
  have hx := hC.1.1
  have hb := hC.1.2.1
  unfold wp_Q_increased at hk
  have hl : lv_has ls 3 [(0, .ref (ad 5)), (1, .int a1)] := hl
  refine lv_iload_n hx hb d_Q_increased_0 rfl (lv_at hl 1 rfl) ?_
  refine lv_iconst (v := 1) hx hb d_Q_increased_1 (by decide) ?_
  refine lv_iadd hx hb d_Q_increased_2 ?_
  refine lv_sipush (v := 255) hx hb d_Q_increased_3 (by decide) ?_
  refine lv_iand hx hb d_Q_increased_6 ?_
  refine lv_topi (fun x1 e_x1 => ?_)
  have hk := hk x1 e_x1
  refine lv_istore_n (lv' := [(2, .int x1), (0, .ref (ad 5)), (1, .int a1)]) hx hb d_Q_increased_7 rfl hl (by decide) rfl (fun ls hl => ?_)
  refine lv_aload_n hx hb d_Q_increased_8 rfl (lv_at hl 1 rfl) ?_
  refine g_Q_r hC hw m_26 d_Q_increased_9 ?_
  refine lv_bipush (v := 6) hx hb d_Q_increased_12 (by decide) ?_
  refine lv_aload_n hx hb d_Q_increased_14 rfl (lv_at hl 1 rfl) ?_
  refine g_Q_r hC hw m_26 d_Q_increased_15 ?_
  refine lv_bipush (v := 6) hx hb d_Q_increased_18 (by decide) ?_
  refine ld_17 (k := 6) hC hw (vin_lit rfl) (by decide) d_Q_increased_20 ?_
  refine lv_bipush (v := 16) hx hb d_Q_increased_21 (by decide) ?_
  refine lv_iand hx hb d_Q_increased_23 ?_
  refine lv_iload_n hx hb d_Q_increased_24 rfl (lv_at hl 0 rfl) ?_
  refine cl_Sip (As := [.int x1]) hC hw (ct_Q_zero _ _ _ hk) m_91 mw_Q_zero rfl ⟨rfl, rfl, Nat.le_of_ble_eq_true rfl, Nat.le_of_ble_eq_true rfl⟩ rfl hl.1 rfl (Nat.le_of_ble_eq_true rfl) d_Q_increased_25 (fun H locs x2 hk hw => ?_)
  refine lv_ior hx hb d_Q_increased_28 ?_
  refine lv_iload_n hx hb d_Q_increased_29 rfl (lv_at hl 0 rfl) ?_
  refine lv_bipush (v := 15) hx hb d_Q_increased_30 (by decide) ?_
  refine lv_iand hx hb d_Q_increased_32 ?_
  have hj1 : ∀ (H : Heap) (locs : List Loc) (ls : Array Slot) (x5 : Int32), wp_Q_increased_j1 M0 x1 x2 x5 Q → Wd D (ceC ad cA) A s H locs M0 → lv_has ls 3 [(0, .ref (ad 5)), (1, .int a1), (2, .int x1)] → W p l e rm_Q_increased s m args below meth c H locs 0 0 QQ (F0 m 42 ls [.int x5, .int (((M0 17 6) &&& (16 : Int32)) ||| x2), .int (6 : Int32), .ref (ad 17)]) := by
    intro H locs ls x5 hk hw hl
    unfold wp_Q_increased_j1 at hk
    refine lv_ior hx hb d_Q_increased_42 ?_
    refine st_17 (k := 6) hC hw (vin_lit rfl) (by decide) d_Q_increased_43 (fun H locs M6 e_M6 hw => ?_)
    have hk := hk M6 e_M6
    refine lv_iload_n hx hb d_Q_increased_44 rfl (lv_at hl 2 rfl) ?_
    exact rt_i hQQ hx hb hr hlk hw ⟨_, rfl, hk⟩ d_Q_increased_45
  refine lv_if_ne (tgt := 41) hx hb d_Q_increased_33 (by decide) (fun hc => ?_) (fun hc => ?_)
  · have hk := hk.1 hc
    refine lv_iconst (v := 0) hx hb d_Q_increased_41 (by decide) ?_
    exact hj1 _ _ _ _ hk hw (lv_sub hl [1, 2, 0] rfl)
  · have hk := hk.2 hc
    refine lv_bipush (v := 32) hx hb d_Q_increased_36 (by decide) ?_
    refine lv_goto (tgt := 42) hx hb d_Q_increased_38 (by decide) ?_
    exact hj1 _ _ _ _ hk hw (lv_sub hl [1, 2, 0] rfl)
set_option maxHeartbeats 4000000 in
set_option maxRecDepth 100000 in
theorem ct_Q_setOctet {l : Launch} {D : va_G} {cA : ClassId} {ad tb : Nat → Nat} (M0 : Mem) (a1 : Int32) (a2 : Int32) (Q : Mem → Prop) (hk : wp_Q_setOctet M0 a1 a2 Q) : Ct l y_Q_setOctet ws_Q_setOctet rm_Q_setOctet D (ceC ad cA) cA tb [.ref (ad 5), .int a1, .int a2] M0 (QV Q) := by
  refine Ct.of (own := "TileConsole$Processor") (cc := b_Q_setOctet) (maxL := 3) (ret := none) ceC_fix (by decide) rfl rfl (Nat.le_of_ble_eq_true rfl) ?_
  intro p e s m args below meth c A QQ ls H locs hQQ hC hr hlk hw hl
  have hx := hC.1.1
  have hb := hC.1.2.1
  unfold wp_Q_setOctet at hk
  have hl : lv_has ls 3 [(0, .ref (ad 5)), (1, .int a1), (2, .int a2)] := hl
  refine lv_iload_n hx hb d_Q_setOctet_0 rfl (lv_at hl 1 rfl) ?_
  refine lv_bipush (v := 6) hx hb d_Q_setOctet_1 (by decide) ?_
  refine lv_icmp_eq (tgt := 17) hx hb d_Q_setOctet_3 (by decide) (fun hc => ?_) (fun hc => ?_)
  · have hk := hk.1 hc
    refine lv_aload_n hx hb d_Q_setOctet_17 rfl (lv_at hl 0 rfl) ?_
    refine lv_dup hx hb d_Q_setOctet_18 rfl ?_
    refine g_Q_time hC hw m_76 d_Q_setOctet_19 ?_
    refine lv_iconst (v := 1) hx hb d_Q_setOctet_22 (by decide) ?_
    refine lv_iadd hx hb d_Q_setOctet_23 ?_
    refine p_Q_time hC hw m_76 d_Q_setOctet_24 (fun H locs M1 e_M1 hw => ?_)
    have hk := hk M1 e_M1
    refine lv_aload_n hx hb d_Q_setOctet_27 rfl (lv_at hl 0 rfl) ?_
    refine g_Q_memory hC hw m_74 d_Q_setOctet_28 ?_
    refine lv_aload_n hx hb d_Q_setOctet_31 rfl (lv_at hl 0 rfl) ?_
    refine lv_iconst (v := 2) hx hb d_Q_setOctet_32 (by decide) ?_
    refine cl_Vip (j := 5) (As := [.int (2 : Int32)]) hC hw (ct_Q_pair _ _ _ hk) m_90 mw_Q_pair rfl ⟨rfl, rfl, Nat.le_of_ble_eq_true rfl, Nat.le_of_ble_eq_true rfl⟩ rfl rfl rfl hl.1 rfl (Nat.le_of_ble_eq_true rfl) d_Q_setOctet_33 (fun H locs x2 hk hw => ?_)
    refine lv_iload_n hx hb d_Q_setOctet_36 rfl (lv_at hl 2 rfl) ?_
    refine cl_Vv (j := 3) (As := [.int x2, .int a2]) hC hw (ct_Y_store _ _ _ _ hk) m_75 mw_Y_store rfl ⟨rfl, rfl, Nat.le_of_ble_eq_true rfl, Nat.le_of_ble_eq_true rfl⟩ rfl rfl rfl hl.1 rfl (Nat.le_of_ble_eq_true rfl) d_Q_setOctet_37 (fun H locs M3 hk hw => ?_)
    exact rt_v hQQ hx hb hr hlk hw ⟨rfl, hk⟩ d_Q_setOctet_40
  · have hk := hk.2 hc
    refine lv_aload_n hx hb d_Q_setOctet_6 rfl (lv_at hl 0 rfl) ?_
    refine g_Q_r hC hw m_26 d_Q_setOctet_7 ?_
    refine lv_iload_n hx hb d_Q_setOctet_10 rfl (lv_at hl 1 rfl) ?_
    refine lv_bipush (v := 7) hx hb d_Q_setOctet_11 (by decide) ?_
    refine lv_iand hx hb d_Q_setOctet_13 ?_
    refine lv_iload_n hx hb d_Q_setOctet_14 rfl (lv_at hl 2 rfl) ?_
    obtain ⟨hin, hk⟩ := hk
    refine st_17 hC hw hin rfl d_Q_setOctet_15 (fun H locs M4 e_M4 hw => ?_)
    have hk := hk M4 e_M4
    exact rt_v hQQ hx hb hr hlk hw ⟨rfl, hk⟩ d_Q_setOctet_16
set_option maxHeartbeats 4000000 in
set_option maxRecDepth 100000 in
theorem ct_Q_decreased {l : Launch} {D : va_G} {cA : ClassId} {ad tb : Nat → Nat} (M0 : Mem) (a1 : Int32) (Q : Int32 → Mem → Prop) (hk : wp_Q_decreased M0 a1 Q) : Ct l y_Q_decreased ws_Q_decreased rm_Q_decreased D (ceC ad cA) cA tb [.ref (ad 5), .int a1] M0 (QI Q) := by
  refine Ct.of (own := "TileConsole$Processor") (cc := b_Q_decreased) (maxL := 3) (ret := (some .int)) ceC_fix (by decide) rfl rfl (Nat.le_of_ble_eq_true rfl) ?_
  intro p e s m args below meth c A QQ ls H locs hQQ hC hr hlk hw hl
  have hx := hC.1.1
  have hb := hC.1.2.1
  unfold wp_Q_decreased at hk
  have hl : lv_has ls 3 [(0, .ref (ad 5)), (1, .int a1)] := hl
  refine lv_iload_n hx hb d_Q_decreased_0 rfl (lv_at hl 1 rfl) ?_
  refine lv_iconst (v := 1) hx hb d_Q_decreased_1 (by decide) ?_
  refine lv_isub hx hb d_Q_decreased_2 ?_
  refine lv_sipush (v := 255) hx hb d_Q_decreased_3 (by decide) ?_
  refine lv_iand hx hb d_Q_decreased_6 ?_
  refine lv_topi (fun x1 e_x1 => ?_)
  have hk := hk x1 e_x1
  refine lv_istore_n (lv' := [(2, .int x1), (0, .ref (ad 5)), (1, .int a1)]) hx hb d_Q_decreased_7 rfl hl (by decide) rfl (fun ls hl => ?_)
  refine lv_aload_n hx hb d_Q_decreased_8 rfl (lv_at hl 1 rfl) ?_
  refine g_Q_r hC hw m_26 d_Q_decreased_9 ?_
  refine lv_bipush (v := 6) hx hb d_Q_decreased_12 (by decide) ?_
  refine lv_aload_n hx hb d_Q_decreased_14 rfl (lv_at hl 1 rfl) ?_
  refine g_Q_r hC hw m_26 d_Q_decreased_15 ?_
  refine lv_bipush (v := 6) hx hb d_Q_decreased_18 (by decide) ?_
  refine ld_17 (k := 6) hC hw (vin_lit rfl) (by decide) d_Q_decreased_20 ?_
  refine lv_bipush (v := 16) hx hb d_Q_decreased_21 (by decide) ?_
  refine lv_iand hx hb d_Q_decreased_23 ?_
  refine lv_bipush (v := 64) hx hb d_Q_decreased_24 (by decide) ?_
  refine lv_ior hx hb d_Q_decreased_26 ?_
  refine lv_iload_n hx hb d_Q_decreased_27 rfl (lv_at hl 0 rfl) ?_
  refine cl_Sip (As := [.int x1]) hC hw (ct_Q_zero _ _ _ hk) m_91 mw_Q_zero rfl ⟨rfl, rfl, Nat.le_of_ble_eq_true rfl, Nat.le_of_ble_eq_true rfl⟩ rfl hl.1 rfl (Nat.le_of_ble_eq_true rfl) d_Q_decreased_28 (fun H locs x2 hk hw => ?_)
  refine lv_ior hx hb d_Q_decreased_31 ?_
  refine lv_iload_n hx hb d_Q_decreased_32 rfl (lv_at hl 0 rfl) ?_
  refine lv_bipush (v := 15) hx hb d_Q_decreased_33 (by decide) ?_
  refine lv_iand hx hb d_Q_decreased_35 ?_
  refine lv_bipush (v := 15) hx hb d_Q_decreased_36 (by decide) ?_
  have hj1 : ∀ (H : Heap) (locs : List Loc) (ls : Array Slot) (x5 : Int32), wp_Q_decreased_j1 M0 x1 x2 x5 Q → Wd D (ceC ad cA) A s H locs M0 → lv_has ls 3 [(0, .ref (ad 5)), (1, .int a1), (2, .int x1)] → W p l e rm_Q_decreased s m args below meth c H locs 0 0 QQ (F0 m 47 ls [.int x5, .int ((((M0 17 6) &&& (16 : Int32)) ||| (64 : Int32)) ||| x2), .int (6 : Int32), .ref (ad 17)]) := by
    intro H locs ls x5 hk hw hl
    unfold wp_Q_decreased_j1 at hk
    refine lv_ior hx hb d_Q_decreased_47 ?_
    refine st_17 (k := 6) hC hw (vin_lit rfl) (by decide) d_Q_decreased_48 (fun H locs M6 e_M6 hw => ?_)
    have hk := hk M6 e_M6
    refine lv_iload_n hx hb d_Q_decreased_49 rfl (lv_at hl 2 rfl) ?_
    exact rt_i hQQ hx hb hr hlk hw ⟨_, rfl, hk⟩ d_Q_decreased_50
  refine lv_icmp_ne (tgt := 46) hx hb d_Q_decreased_38 (by decide) (fun hc => ?_) (fun hc => ?_)
  · have hk := hk.1 hc
    refine lv_iconst (v := 0) hx hb d_Q_decreased_46 (by decide) ?_
    exact hj1 _ _ _ _ hk hw (lv_sub hl [1, 2, 0] rfl)
  · have hk := hk.2 hc
    refine lv_bipush (v := 32) hx hb d_Q_decreased_41 (by decide) ?_
    refine lv_goto (tgt := 47) hx hb d_Q_decreased_43 (by decide) ?_
    exact hj1 _ _ _ _ hk hw (lv_sub hl [1, 2, 0] rfl)
