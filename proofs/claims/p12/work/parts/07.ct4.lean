set_option maxHeartbeats 4000000 in
set_option maxRecDepth 100000 in
theorem ct_Q_setLogic {l : Launch} {D : va_G} {cA : ClassId} {ad tb : Nat → Nat} (M0 : Mem) (a1 : Int32) (a2 : Int32) (Q : Mem → Prop) (hk : wp_Q_setLogic M0 a1 a2 Q) : Ct l y_Q_setLogic ws_Q_setLogic rm_Q_setLogic D (ceC ad cA) cA tb [.ref (ad 5), .int a1, .int a2] M0 (QV Q) := by
  refine Ct.of (own := "TileConsole$Processor") (cc := b_Q_setLogic) (maxL := 3) (ret := none) ceC_fix (by decide) rfl rfl (Nat.le_of_ble_eq_true rfl) ?_
  intro p e s m args below meth c A QQ ls H locs hQQ hC hr hlk hw hl
  have hx := hC.1.1
  have hb := hC.1.2.1
  unfold wp_Q_setLogic at hk
  have hl : lv_has ls 3 [(0, .ref (ad 5)), (1, .int a1), (2, .int a2)] := hl
  refine lv_aload_n hx hb d_Q_setLogic_0 rfl (lv_at hl 0 rfl) ?_
  refine g_Q_r hC hw m_26 d_Q_setLogic_1 ?_
  refine lv_bipush (v := 7) hx hb d_Q_setLogic_4 (by decide) ?_
  refine lv_iload_n hx hb d_Q_setLogic_6 rfl (lv_at hl 1 rfl) ?_
  refine st_17 (k := 7) hC hw (vin_lit rfl) (by decide) d_Q_setLogic_7 (fun H locs M1 e_M1 hw => ?_)
  have hk := hk M1 e_M1
  refine lv_aload_n hx hb d_Q_setLogic_8 rfl (lv_at hl 0 rfl) ?_
  refine g_Q_r hC hw m_26 d_Q_setLogic_9 ?_
  refine lv_bipush (v := 6) hx hb d_Q_setLogic_12 (by decide) ?_
  refine lv_iload_n hx hb d_Q_setLogic_14 rfl (lv_at hl 1 rfl) ?_
  refine cl_Sip (As := [.int a1]) hC hw (ct_Q_zero _ _ _ hk) m_91 mw_Q_zero rfl ⟨rfl, rfl, Nat.le_of_ble_eq_true rfl, Nat.le_of_ble_eq_true rfl⟩ rfl hl.1 rfl (Nat.le_of_ble_eq_true rfl) d_Q_setLogic_15 (fun H locs x2 hk hw => ?_)
  refine lv_iload_n hx hb d_Q_setLogic_18 rfl (lv_at hl 2 rfl) ?_
  refine lv_ior hx hb d_Q_setLogic_19 ?_
  refine st_17 (k := 6) hC hw (vin_lit rfl) (by decide) d_Q_setLogic_20 (fun H locs M3 e_M3 hw => ?_)
  have hk := hk M3 e_M3
  exact rt_v hQQ hx hb hr hlk hw ⟨rfl, hk⟩ d_Q_setLogic_21
set_option maxHeartbeats 4000000 in
set_option maxRecDepth 100000 in
theorem ct_Q_combine {l : Launch} {D : va_G} {cA : ClassId} {ad tb : Nat → Nat} (M0 : Mem) (a1 : Int32) (a2 : Int32) (Q : Mem → Prop) (hk : wp_Q_combine M0 a1 a2 Q) : Ct l y_Q_combine ws_Q_combine rm_Q_combine D (ceC ad cA) cA tb [.ref (ad 5), .int a1, .int a2] M0 (QV Q) := by
  refine Ct.of (own := "TileConsole$Processor") (cc := b_Q_combine) (maxL := 5) (ret := none) ceC_fix (by decide) rfl rfl (Nat.le_of_ble_eq_true rfl) ?_
  intro p e s m args below meth c A QQ ls H locs hQQ hC hr hlk hw hl
  have hx := hC.1.1
  have hb := hC.1.2.1
  unfold wp_Q_combine at hk
  have hl : lv_has ls 5 [(0, .ref (ad 5)), (1, .int a1), (2, .int a2)] := hl
  refine lv_aload_n hx hb d_Q_combine_0 rfl (lv_at hl 0 rfl) ?_
  refine g_Q_r hC hw m_26 d_Q_combine_1 ?_
  refine lv_bipush (v := 7) hx hb d_Q_combine_4 (by decide) ?_
  refine ld_17 (k := 7) hC hw (vin_lit rfl) (by decide) d_Q_combine_6 ?_
  refine lv_topi (fun x1 e_x1 => ?_)
  have hk := hk x1 e_x1
  refine lv_istore_n (lv' := [(3, .int x1), (0, .ref (ad 5)), (1, .int a1), (2, .int a2)]) hx hb d_Q_combine_7 rfl hl (by decide) rfl (fun ls hl => ?_)
  refine lv_aload_n hx hb d_Q_combine_8 rfl (lv_at hl 1 rfl) ?_
  refine g_Q_r hC hw m_26 d_Q_combine_9 ?_
  refine lv_bipush (v := 6) hx hb d_Q_combine_12 (by decide) ?_
  refine ld_17 (k := 6) hC hw (vin_lit rfl) (by decide) d_Q_combine_14 ?_
  refine lv_bipush (v := 16) hx hb d_Q_combine_15 (by decide) ?_
  refine lv_iand hx hb d_Q_combine_17 ?_
  have hj1 : ∀ (H : Heap) (locs : List Loc) (ls : Array Slot) (x31 : Int32), wp_Q_combine_j1 M0 a1 a2 x1 x31 Q → Wd D (ceC ad cA) A s H locs M0 → lv_has ls 5 [(0, .ref (ad 5)), (1, .int a1), (2, .int a2), (3, .int x1)] → W p l e rm_Q_combine s m args below meth c H locs 0 0 QQ (F0 m 26 ls [.int x31]) := by
    intro H locs ls x31 hk hw hl
    unfold wp_Q_combine_j1 at hk
    refine lv_istore (lv' := [(4, .int x31), (0, .ref (ad 5)), (1, .int a1), (2, .int a2), (3, .int x1)]) hx hb d_Q_combine_26 hl (by decide) rfl (fun ls hl => ?_)
    refine lv_iload_n hx hb d_Q_combine_28 rfl (lv_at hl 2 rfl) ?_
    have hj2 : ∀ (H : Heap) (locs : List Loc) (ls : Array Slot) (M46 : Mem), wp_Q_combine_j2 M46 Q → Wd D (ceC ad cA) A s H locs M46 → lv_has ls 5 [(0, .ref (ad 5)), (1, .int a1), (2, .int a2), (3, .int x1), (4, .int x31)] → W p l e rm_Q_combine s m args below meth c H locs 0 0 QQ (F0 m 165 ls []) := by
      intro H locs ls M46 hk hw hl
      unfold wp_Q_combine_j2 at hk
      exact rt_v hQQ hx hb hr hlk hw ⟨rfl, hk⟩ d_Q_combine_165
    by_cases hs8 : (a1 = (0 : Int32))
    · have hk := hk.1 hs8
      refine lv_tableIn (x := a1) (off := 43) (tgt := 72) hx hb d_Q_combine_29 (by rw [hs8]; decide) (by rw [hs8]; decide) (by rw [hs8]; decide) (by decide) ?_
      refine lv_aload_n hx hb d_Q_combine_72 rfl (lv_at hl 1 rfl) ?_
      refine lv_iload_n hx hb d_Q_combine_73 rfl (lv_at hl 3 rfl) ?_
      refine lv_iconst (v := 0) hx hb d_Q_combine_74 (by decide) ?_
      refine cl_Vv (j := 5) (As := [.int a2, .int (0 : Int32)]) hC hw (ct_Q_add _ _ _ _ hk) m_110 mw_Q_add rfl ⟨rfl, rfl, Nat.le_of_ble_eq_true rfl, Nat.le_of_ble_eq_true rfl⟩ rfl rfl rfl hl.1 rfl (Nat.le_of_ble_eq_true rfl) d_Q_combine_75 (fun H locs M47 hk hw => ?_)
      refine lv_goto (tgt := 165) hx hb d_Q_combine_78 (by decide) ?_
      exact hj2 _ _ _ _ hk hw (lv_sub hl [1, 2, 3, 4, 0] rfl)
    · have hk := hk.2 hs8
      by_cases hs9 : (a1 = (1 : Int32))
      · have hk := hk.1 hs9
        refine lv_tableIn (x := a1) (off := 52) (tgt := 81) hx hb d_Q_combine_29 (by rw [hs9]; decide) (by rw [hs9]; decide) (by rw [hs9]; decide) (by decide) ?_
        refine lv_aload_n hx hb d_Q_combine_81 rfl (lv_at hl 1 rfl) ?_
        refine lv_iload_n hx hb d_Q_combine_82 rfl (lv_at hl 3 rfl) ?_
        refine lv_iload hx hb d_Q_combine_83 (lv_at hl 0 rfl) ?_
        refine cl_Vv (j := 5) (As := [.int a2, .int x31]) hC hw (ct_Q_add _ _ _ _ hk) m_110 mw_Q_add rfl ⟨rfl, rfl, Nat.le_of_ble_eq_true rfl, Nat.le_of_ble_eq_true rfl⟩ rfl rfl rfl hl.1 rfl (Nat.le_of_ble_eq_true rfl) d_Q_combine_85 (fun H locs M48 hk hw => ?_)
        refine lv_goto (tgt := 165) hx hb d_Q_combine_88 (by decide) ?_
        exact hj2 _ _ _ _ hk hw (lv_sub hl [1, 2, 3, 4, 0] rfl)
      · have hk := hk.2 hs9
        by_cases hs10 : (a1 = (2 : Int32))
        · have hk := hk.1 hs10
          refine lv_tableIn (x := a1) (off := 62) (tgt := 91) hx hb d_Q_combine_29 (by rw [hs10]; decide) (by rw [hs10]; decide) (by rw [hs10]; decide) (by decide) ?_
          refine lv_aload_n hx hb d_Q_combine_91 rfl (lv_at hl 1 rfl) ?_
          refine g_Q_r hC hw m_26 d_Q_combine_92 ?_
          refine lv_bipush (v := 7) hx hb d_Q_combine_95 (by decide) ?_
          refine lv_aload_n hx hb d_Q_combine_97 rfl (lv_at hl 1 rfl) ?_
          refine lv_iload_n hx hb d_Q_combine_98 rfl (lv_at hl 3 rfl) ?_
          refine lv_iconst (v := 0) hx hb d_Q_combine_99 (by decide) ?_
          refine cl_Vi (j := 5) (As := [.int a2, .int (0 : Int32)]) hC hw (ct_Q_difference _ _ _ _ hk) m_111 mw_Q_difference rfl ⟨rfl, rfl, Nat.le_of_ble_eq_true rfl, Nat.le_of_ble_eq_true rfl⟩ rfl rfl rfl hl.1 rfl (Nat.le_of_ble_eq_true rfl) d_Q_combine_100 (fun H locs x49 M50 hk hw => ?_)
          refine st_17 (k := 7) hC hw (vin_lit rfl) (by decide) d_Q_combine_103 (fun H locs M51 e_M51 hw => ?_)
          have hk := hk M51 e_M51
          refine lv_goto (tgt := 165) hx hb d_Q_combine_104 (by decide) ?_
          exact hj2 _ _ _ _ hk hw (lv_sub hl [1, 2, 3, 4, 0] rfl)
        · have hk := hk.2 hs10
          by_cases hs11 : (a1 = (3 : Int32))
          · have hk := hk.1 hs11
            refine lv_tableIn (x := a1) (off := 78) (tgt := 107) hx hb d_Q_combine_29 (by rw [hs11]; decide) (by rw [hs11]; decide) (by rw [hs11]; decide) (by decide) ?_
            refine lv_aload_n hx hb d_Q_combine_107 rfl (lv_at hl 1 rfl) ?_
            refine g_Q_r hC hw m_26 d_Q_combine_108 ?_
            refine lv_bipush (v := 7) hx hb d_Q_combine_111 (by decide) ?_
            refine lv_aload_n hx hb d_Q_combine_113 rfl (lv_at hl 1 rfl) ?_
            refine lv_iload_n hx hb d_Q_combine_114 rfl (lv_at hl 3 rfl) ?_
            refine lv_iload hx hb d_Q_combine_115 (lv_at hl 0 rfl) ?_
            refine cl_Vi (j := 5) (As := [.int a2, .int x31]) hC hw (ct_Q_difference _ _ _ _ hk) m_111 mw_Q_difference rfl ⟨rfl, rfl, Nat.le_of_ble_eq_true rfl, Nat.le_of_ble_eq_true rfl⟩ rfl rfl rfl hl.1 rfl (Nat.le_of_ble_eq_true rfl) d_Q_combine_117 (fun H locs x52 M53 hk hw => ?_)
            refine st_17 (k := 7) hC hw (vin_lit rfl) (by decide) d_Q_combine_120 (fun H locs M54 e_M54 hw => ?_)
            have hk := hk M54 e_M54
            refine lv_goto (tgt := 165) hx hb d_Q_combine_121 (by decide) ?_
            exact hj2 _ _ _ _ hk hw (lv_sub hl [1, 2, 3, 4, 0] rfl)
          · have hk := hk.2 hs11
            by_cases hs12 : (a1 = (4 : Int32))
            · have hk := hk.1 hs12
              refine lv_tableIn (x := a1) (off := 95) (tgt := 124) hx hb d_Q_combine_29 (by rw [hs12]; decide) (by rw [hs12]; decide) (by rw [hs12]; decide) (by decide) ?_
              refine lv_aload_n hx hb d_Q_combine_124 rfl (lv_at hl 1 rfl) ?_
              refine lv_iload_n hx hb d_Q_combine_125 rfl (lv_at hl 4 rfl) ?_
              refine lv_iload_n hx hb d_Q_combine_126 rfl (lv_at hl 3 rfl) ?_
              refine lv_iand hx hb d_Q_combine_127 ?_
              refine lv_bipush (v := 32) hx hb d_Q_combine_128 (by decide) ?_
              refine cl_Vv (j := 5) (As := [.int (x1 &&& a2), .int (32 : Int32)]) hC hw (ct_Q_setLogic _ _ _ _ hk) m_112 mw_Q_setLogic rfl ⟨rfl, rfl, Nat.le_of_ble_eq_true rfl, Nat.le_of_ble_eq_true rfl⟩ rfl rfl rfl hl.1 rfl (Nat.le_of_ble_eq_true rfl) d_Q_combine_130 (fun H locs M55 hk hw => ?_)
              refine lv_goto (tgt := 165) hx hb d_Q_combine_133 (by decide) ?_
              exact hj2 _ _ _ _ hk hw (lv_sub hl [1, 2, 3, 4, 0] rfl)
            · have hk := hk.2 hs12
              by_cases hs13 : (a1 = (5 : Int32))
              · have hk := hk.1 hs13
                refine lv_tableIn (x := a1) (off := 107) (tgt := 136) hx hb d_Q_combine_29 (by rw [hs13]; decide) (by rw [hs13]; decide) (by rw [hs13]; decide) (by decide) ?_
                refine lv_aload_n hx hb d_Q_combine_136 rfl (lv_at hl 1 rfl) ?_
                refine lv_iload_n hx hb d_Q_combine_137 rfl (lv_at hl 4 rfl) ?_
                refine lv_iload_n hx hb d_Q_combine_138 rfl (lv_at hl 3 rfl) ?_
                refine lv_ixor hx hb d_Q_combine_139 ?_
                refine lv_iconst (v := 0) hx hb d_Q_combine_140 (by decide) ?_
                refine cl_Vv (j := 5) (As := [.int (x1 ^^^ a2), .int (0 : Int32)]) hC hw (ct_Q_setLogic _ _ _ _ hk) m_112 mw_Q_setLogic rfl ⟨rfl, rfl, Nat.le_of_ble_eq_true rfl, Nat.le_of_ble_eq_true rfl⟩ rfl rfl rfl hl.1 rfl (Nat.le_of_ble_eq_true rfl) d_Q_combine_141 (fun H locs M56 hk hw => ?_)
                refine lv_goto (tgt := 165) hx hb d_Q_combine_144 (by decide) ?_
                exact hj2 _ _ _ _ hk hw (lv_sub hl [1, 2, 3, 4, 0] rfl)
              · have hk := hk.2 hs13
                by_cases hs14 : (a1 = (6 : Int32))
                · have hk := hk.1 hs14
                  refine lv_tableIn (x := a1) (off := 118) (tgt := 147) hx hb d_Q_combine_29 (by rw [hs14]; decide) (by rw [hs14]; decide) (by rw [hs14]; decide) (by decide) ?_
                  refine lv_aload_n hx hb d_Q_combine_147 rfl (lv_at hl 1 rfl) ?_
                  refine lv_iload_n hx hb d_Q_combine_148 rfl (lv_at hl 4 rfl) ?_
                  refine lv_iload_n hx hb d_Q_combine_149 rfl (lv_at hl 3 rfl) ?_
                  refine lv_ior hx hb d_Q_combine_150 ?_
                  refine lv_iconst (v := 0) hx hb d_Q_combine_151 (by decide) ?_
                  refine cl_Vv (j := 5) (As := [.int (x1 ||| a2), .int (0 : Int32)]) hC hw (ct_Q_setLogic _ _ _ _ hk) m_112 mw_Q_setLogic rfl ⟨rfl, rfl, Nat.le_of_ble_eq_true rfl, Nat.le_of_ble_eq_true rfl⟩ rfl rfl rfl hl.1 rfl (Nat.le_of_ble_eq_true rfl) d_Q_combine_152 (fun H locs M57 hk hw => ?_)
                  refine lv_goto (tgt := 165) hx hb d_Q_combine_155 (by decide) ?_
                  exact hj2 _ _ _ _ hk hw (lv_sub hl [1, 2, 3, 4, 0] rfl)
                · have hk := hk.2 hs14
                  refine lv_tableOut (x := a1) (tgt := 158) hx hb d_Q_combine_29 (by have hz := (⟨lv_neT hs8 (show ((0 : Int32)).toInt = 0 by decide), lv_neT hs9 (show ((1 : Int32)).toInt = 1 by decide), lv_neT hs10 (show ((2 : Int32)).toInt = 2 by decide), lv_neT hs11 (show ((3 : Int32)).toInt = 3 by decide), lv_neT hs12 (show ((4 : Int32)).toInt = 4 by decide), lv_neT hs13 (show ((5 : Int32)).toInt = 5 by decide), lv_neT hs14 (show ((6 : Int32)).toInt = 6 by decide)⟩ : ¬ (a1).toInt = 0 ∧ ¬ (a1).toInt = 1 ∧ ¬ (a1).toInt = 2 ∧ ¬ (a1).toInt = 3 ∧ ¬ (a1).toInt = 4 ∧ ¬ (a1).toInt = 5 ∧ ¬ (a1).toInt = 6); omega) (by decide) ?_
                  refine lv_aload_n hx hb d_Q_combine_158 rfl (lv_at hl 1 rfl) ?_
                  refine lv_iload_n hx hb d_Q_combine_159 rfl (lv_at hl 3 rfl) ?_
                  refine lv_iconst (v := 0) hx hb d_Q_combine_160 (by decide) ?_
                  refine cl_Vi (j := 5) (As := [.int a2, .int (0 : Int32)]) hC hw (ct_Q_difference _ _ _ _ hk) m_111 mw_Q_difference rfl ⟨rfl, rfl, Nat.le_of_ble_eq_true rfl, Nat.le_of_ble_eq_true rfl⟩ rfl rfl rfl hl.1 rfl (Nat.le_of_ble_eq_true rfl) d_Q_combine_161 (fun H locs x58 M59 hk hw => ?_)
                  refine lv_pop hx hb d_Q_combine_164 rfl ?_
                  exact hj2 _ _ _ _ hk hw (lv_sub hl [1, 2, 3, 4, 0] rfl)
  refine lv_if_eq (tgt := 25) hx hb d_Q_combine_18 (by decide) (fun hc => ?_) (fun hc => ?_)
  · have hk := hk.1 hc
    refine lv_iconst (v := 0) hx hb d_Q_combine_25 (by decide) ?_
    exact hj1 _ _ _ _ hk hw (lv_sub hl [1, 2, 3, 0] rfl)
  · have hk := hk.2 hc
    refine lv_iconst (v := 1) hx hb d_Q_combine_21 (by decide) ?_
    refine lv_goto (tgt := 26) hx hb d_Q_combine_22 (by decide) ?_
    exact hj1 _ _ _ _ hk hw (lv_sub hl [1, 2, 3, 0] rfl)
set_option maxHeartbeats 4000000 in
set_option maxRecDepth 100000 in
theorem ct_Q_doPrefixed {l : Launch} {D : va_G} {cA : ClassId} {ad tb : Nat → Nat} (M0 : Mem) (Q : Mem → Prop) (hk : wp_Q_doPrefixed M0 Q) : Ct l y_Q_doPrefixed ws_Q_doPrefixed rm_Q_doPrefixed D (ceC ad cA) cA tb [.ref (ad 5)] M0 (QV Q) := by
  refine Ct.of (own := "TileConsole$Processor") (cc := b_Q_doPrefixed) (maxL := 5) (ret := none) ceC_fix (by decide) rfl rfl (Nat.le_of_ble_eq_true rfl) ?_
  intro p e s m args below meth c A QQ ls H locs hQQ hC hr hlk hw hl
  have hx := hC.1.1
  have hb := hC.1.2.1
  unfold wp_Q_doPrefixed at hk
  have hl : lv_has ls 5 [(0, .ref (ad 5))] := hl
  refine lv_aload_n hx hb d_Q_doPrefixed_0 rfl (lv_at hl 0 rfl) ?_
  refine cl_Vi (j := 5) (As := []) hC hw (ct_Q_fetch _  _ hk) m_89 mw_Q_fetch rfl ⟨rfl, rfl, Nat.le_of_ble_eq_true rfl, Nat.le_of_ble_eq_true rfl⟩ rfl rfl rfl hl.1 rfl (Nat.le_of_ble_eq_true rfl) d_Q_doPrefixed_1 (fun H locs x1 M2 hk hw => ?_)
  refine lv_istore_n (lv' := [(1, .int x1), (0, .ref (ad 5))]) hx hb d_Q_doPrefixed_4 rfl hl (by decide) rfl (fun ls hl => ?_)
  refine lv_iload_n hx hb d_Q_doPrefixed_5 rfl (lv_at hl 0 rfl) ?_
  refine lv_iconst (v := 3) hx hb d_Q_doPrefixed_6 (by decide) ?_
  refine lv_ishr hx hb d_Q_doPrefixed_7 ?_
  refine lv_bipush (v := 7) hx hb d_Q_doPrefixed_8 (by decide) ?_
  refine lv_iand hx hb d_Q_doPrefixed_10 ?_
  refine lv_topi (fun x3 e_x3 => ?_)
  have hk := hk x3 e_x3
  refine lv_istore_n (lv' := [(2, .int x3), (1, .int x1), (0, .ref (ad 5))]) hx hb d_Q_doPrefixed_11 rfl hl (by decide) rfl (fun ls hl => ?_)
  refine lv_iload_n hx hb d_Q_doPrefixed_12 rfl (lv_at hl 1 rfl) ?_
  refine lv_bipush (v := 7) hx hb d_Q_doPrefixed_13 (by decide) ?_
  refine lv_iand hx hb d_Q_doPrefixed_15 ?_
  refine lv_topi (fun x4 e_x4 => ?_)
  have hk := hk x4 e_x4
  refine lv_istore_n (lv' := [(3, .int x4), (2, .int x3), (1, .int x1), (0, .ref (ad 5))]) hx hb d_Q_doPrefixed_16 rfl hl (by decide) rfl (fun ls hl => ?_)
  refine lv_aload_n hx hb d_Q_doPrefixed_17 rfl (lv_at hl 3 rfl) ?_
  refine lv_iload_n hx hb d_Q_doPrefixed_18 rfl (lv_at hl 0 rfl) ?_
  refine cl_Vi (j := 5) (As := [.int x4]) hC hw (ct_Q_octetAt _ _ _ hk) m_105 mw_Q_octetAt rfl ⟨rfl, rfl, Nat.le_of_ble_eq_true rfl, Nat.le_of_ble_eq_true rfl⟩ rfl rfl rfl hl.1 rfl (Nat.le_of_ble_eq_true rfl) d_Q_doPrefixed_19 (fun H locs x5 M6 hk hw => ?_)
  refine lv_istore (lv' := [(4, .int x5), (3, .int x4), (2, .int x3), (1, .int x1), (0, .ref (ad 5))]) hx hb d_Q_doPrefixed_22 hl (by decide) rfl (fun ls hl => ?_)
  refine lv_iload_n hx hb d_Q_doPrefixed_24 rfl (lv_at hl 3 rfl) ?_
  refine lv_bipush (v := 6) hx hb d_Q_doPrefixed_25 (by decide) ?_
  refine lv_ishr hx hb d_Q_doPrefixed_27 ?_
  have hj1 : ∀ (H : Heap) (locs : List Loc) (ls : Array Slot) (M15 : Mem), wp_Q_doPrefixed_j1 M15 Q → Wd D (ceC ad cA) A s H locs M15 → lv_has ls 5 [(0, .ref (ad 5)), (1, .int x1), (2, .int x3), (3, .int x4), (4, .int x5)] → W p l e rm_Q_doPrefixed s m args below meth c H locs 0 0 QQ (F0 m 131 ls []) := by
    intro H locs ls M15 hk hw hl
    unfold wp_Q_doPrefixed_j1 at hk
    exact rt_v hQQ hx hb hr hlk hw ⟨rfl, hk⟩ d_Q_doPrefixed_131
  by_cases hs1 : ((x1 >>> ((6 : Int32) &&& (31 : Int32))) = (0 : Int32))
  · have hk := hk.1 hs1
    refine lv_tableIn (x := (x1 >>> ((6 : Int32) &&& (31 : Int32)))) (off := 28) (tgt := 56) hx hb d_Q_doPrefixed_28 (by rw [hs1]; decide) (by rw [hs1]; decide) (by rw [hs1]; decide) (by decide) ?_
    refine lv_aload_n hx hb d_Q_doPrefixed_56 rfl (lv_at hl 4 rfl) ?_
    refine lv_iload_n hx hb d_Q_doPrefixed_57 rfl (lv_at hl 1 rfl) ?_
    refine lv_aload_n hx hb d_Q_doPrefixed_58 rfl (lv_at hl 4 rfl) ?_
    refine lv_iload_n hx hb d_Q_doPrefixed_59 rfl (lv_at hl 2 rfl) ?_
    refine lv_iload hx hb d_Q_doPrefixed_60 (lv_at hl 0 rfl) ?_
    refine cl_Vi (j := 5) (As := [.int x3, .int x5]) hC hw (ct_Q_shifted _ _ _ _ hk) m_93 mw_Q_shifted rfl ⟨rfl, rfl, Nat.le_of_ble_eq_true rfl, Nat.le_of_ble_eq_true rfl⟩ rfl rfl rfl hl.1 rfl (Nat.le_of_ble_eq_true rfl) d_Q_doPrefixed_62 (fun H locs x16 M17 hk hw => ?_)
    refine cl_Vv (j := 5) (As := [.int x4, .int x16]) hC hw (ct_Q_setOctet _ _ _ _ hk) m_107 mw_Q_setOctet rfl ⟨rfl, rfl, Nat.le_of_ble_eq_true rfl, Nat.le_of_ble_eq_true rfl⟩ rfl rfl rfl hl.1 rfl (Nat.le_of_ble_eq_true rfl) d_Q_doPrefixed_65 (fun H locs M18 hk hw => ?_)
    refine lv_goto (tgt := 131) hx hb d_Q_doPrefixed_68 (by decide) ?_
    exact hj1 _ _ _ _ hk hw (lv_sub hl [4, 3, 2, 1, 0] rfl)
  · have hk := hk.2 hs1
    by_cases hs2 : ((x1 >>> ((6 : Int32) &&& (31 : Int32))) = (1 : Int32))
    · have hk := hk.1 hs2
      refine lv_tableIn (x := (x1 >>> ((6 : Int32) &&& (31 : Int32)))) (off := 43) (tgt := 71) hx hb d_Q_doPrefixed_28 (by rw [hs2]; decide) (by rw [hs2]; decide) (by rw [hs2]; decide) (by decide) ?_
      refine lv_aload_n hx hb d_Q_doPrefixed_71 rfl (lv_at hl 4 rfl) ?_
      refine g_Q_r hC hw m_26 d_Q_doPrefixed_72 ?_
      refine lv_bipush (v := 6) hx hb d_Q_doPrefixed_75 (by decide) ?_
      refine lv_aload_n hx hb d_Q_doPrefixed_77 rfl (lv_at hl 4 rfl) ?_
      refine g_Q_r hC hw m_26 d_Q_doPrefixed_78 ?_
      refine lv_bipush (v := 6) hx hb d_Q_doPrefixed_81 (by decide) ?_
      refine ld_17 (k := 6) hC hw (vin_lit rfl) (by decide) d_Q_doPrefixed_83 ?_
      refine lv_bipush (v := 16) hx hb d_Q_doPrefixed_84 (by decide) ?_
      refine lv_iand hx hb d_Q_doPrefixed_86 ?_
      refine lv_bipush (v := 32) hx hb d_Q_doPrefixed_87 (by decide) ?_
      refine lv_ior hx hb d_Q_doPrefixed_89 ?_
      refine lv_iload hx hb d_Q_doPrefixed_90 (lv_at hl 0 rfl) ?_
      refine lv_iconst (v := 1) hx hb d_Q_doPrefixed_92 (by decide) ?_
      refine lv_iload_n hx hb d_Q_doPrefixed_93 rfl (lv_at hl 2 rfl) ?_
      refine lv_ishl hx hb d_Q_doPrefixed_94 ?_
      refine lv_iand hx hb d_Q_doPrefixed_95 ?_
      refine cl_Sip (As := [.int (x5 &&& ((1 : Int32) <<< (x3 &&& (31 : Int32))))]) hC hw (ct_Q_zero _ _ _ hk) m_91 mw_Q_zero rfl ⟨rfl, rfl, Nat.le_of_ble_eq_true rfl, Nat.le_of_ble_eq_true rfl⟩ rfl hl.1 rfl (Nat.le_of_ble_eq_true rfl) d_Q_doPrefixed_96 (fun H locs x19 hk hw => ?_)
      refine lv_ior hx hb d_Q_doPrefixed_99 ?_
      refine st_17 (k := 6) hC hw (vin_lit rfl) (by decide) d_Q_doPrefixed_100 (fun H locs M20 e_M20 hw => ?_)
      have hk := hk M20 e_M20
      refine lv_goto (tgt := 131) hx hb d_Q_doPrefixed_101 (by decide) ?_
      exact hj1 _ _ _ _ hk hw (lv_sub hl [4, 3, 2, 1, 0] rfl)
    · have hk := hk.2 hs2
      by_cases hs3 : ((x1 >>> ((6 : Int32) &&& (31 : Int32))) = (2 : Int32))
      · have hk := hk.1 hs3
        refine lv_tableIn (x := (x1 >>> ((6 : Int32) &&& (31 : Int32)))) (off := 76) (tgt := 104) hx hb d_Q_doPrefixed_28 (by rw [hs3]; decide) (by rw [hs3]; decide) (by rw [hs3]; decide) (by decide) ?_
        refine lv_aload_n hx hb d_Q_doPrefixed_104 rfl (lv_at hl 4 rfl) ?_
        refine lv_iload_n hx hb d_Q_doPrefixed_105 rfl (lv_at hl 1 rfl) ?_
        refine lv_iload hx hb d_Q_doPrefixed_106 (lv_at hl 0 rfl) ?_
        refine lv_iconst (v := 1) hx hb d_Q_doPrefixed_108 (by decide) ?_
        refine lv_iload_n hx hb d_Q_doPrefixed_109 rfl (lv_at hl 2 rfl) ?_
        refine lv_ishl hx hb d_Q_doPrefixed_110 ?_
        refine lv_iconst (v := (-1)) hx hb d_Q_doPrefixed_111 (by decide) ?_
        refine lv_ixor hx hb d_Q_doPrefixed_112 ?_
        refine lv_iand hx hb d_Q_doPrefixed_113 ?_
        refine cl_Vv (j := 5) (As := [.int x4, .int (x5 &&& (((1 : Int32) <<< (x3 &&& (31 : Int32))) ^^^ (-1 : Int32)))]) hC hw (ct_Q_setOctet _ _ _ _ hk) m_107 mw_Q_setOctet rfl ⟨rfl, rfl, Nat.le_of_ble_eq_true rfl, Nat.le_of_ble_eq_true rfl⟩ rfl rfl rfl hl.1 rfl (Nat.le_of_ble_eq_true rfl) d_Q_doPrefixed_114 (fun H locs M21 hk hw => ?_)
        refine lv_goto (tgt := 131) hx hb d_Q_doPrefixed_117 (by decide) ?_
        exact hj1 _ _ _ _ hk hw (lv_sub hl [4, 3, 2, 1, 0] rfl)
      · have hk := hk.2 hs3
        refine lv_tableOut (x := (x1 >>> ((6 : Int32) &&& (31 : Int32)))) (tgt := 120) hx hb d_Q_doPrefixed_28 (by have hz := (⟨lv_neT hs1 (show ((0 : Int32)).toInt = 0 by decide), lv_neT hs2 (show ((1 : Int32)).toInt = 1 by decide), lv_neT hs3 (show ((2 : Int32)).toInt = 2 by decide)⟩ : ¬ ((x1 >>> ((6 : Int32) &&& (31 : Int32)))).toInt = 0 ∧ ¬ ((x1 >>> ((6 : Int32) &&& (31 : Int32)))).toInt = 1 ∧ ¬ ((x1 >>> ((6 : Int32) &&& (31 : Int32)))).toInt = 2); omega) (by decide) ?_
        refine lv_aload_n hx hb d_Q_doPrefixed_120 rfl (lv_at hl 4 rfl) ?_
        refine lv_iload_n hx hb d_Q_doPrefixed_121 rfl (lv_at hl 1 rfl) ?_
        refine lv_iload hx hb d_Q_doPrefixed_122 (lv_at hl 0 rfl) ?_
        refine lv_iconst (v := 1) hx hb d_Q_doPrefixed_124 (by decide) ?_
        refine lv_iload_n hx hb d_Q_doPrefixed_125 rfl (lv_at hl 2 rfl) ?_
        refine lv_ishl hx hb d_Q_doPrefixed_126 ?_
        refine lv_ior hx hb d_Q_doPrefixed_127 ?_
        refine cl_Vv (j := 5) (As := [.int x4, .int (x5 ||| ((1 : Int32) <<< (x3 &&& (31 : Int32))))]) hC hw (ct_Q_setOctet _ _ _ _ hk) m_107 mw_Q_setOctet rfl ⟨rfl, rfl, Nat.le_of_ble_eq_true rfl, Nat.le_of_ble_eq_true rfl⟩ rfl rfl rfl hl.1 rfl (Nat.le_of_ble_eq_true rfl) d_Q_doPrefixed_128 (fun H locs M22 hk hw => ?_)
        exact hj1 _ _ _ _ hk hw (lv_sub hl [4, 3, 2, 1, 0] rfl)
set_option maxHeartbeats 4000000 in
set_option maxRecDepth 100000 in
theorem ct_Q_pop {l : Launch} {D : va_G} {cA : ClassId} {ad tb : Nat → Nat} (M0 : Mem) (Q : Int32 → Mem → Prop) (hk : wp_Q_pop M0 Q) : Ct l y_Q_pop ws_Q_pop rm_Q_pop D (ceC ad cA) cA tb [.ref (ad 5)] M0 (QI Q) := by
  refine Ct.of (own := "TileConsole$Processor") (cc := b_Q_pop) (maxL := 2) (ret := (some .int)) ceC_fix (by decide) rfl rfl (Nat.le_of_ble_eq_true rfl) ?_
  intro p e s m args below meth c A QQ ls H locs hQQ hC hr hlk hw hl
  have hx := hC.1.1
  have hb := hC.1.2.1
  unfold wp_Q_pop at hk
  have hl : lv_has ls 2 [(0, .ref (ad 5))] := hl
  refine lv_aload_n hx hb d_Q_pop_0 rfl (lv_at hl 0 rfl) ?_
  refine g_Q_memory hC hw m_74 d_Q_pop_1 ?_
  refine lv_aload_n hx hb d_Q_pop_4 rfl (lv_at hl 0 rfl) ?_
  refine g_Q_sp hC hw m_28 d_Q_pop_5 ?_
  refine lv_iconst (v := 1) hx hb d_Q_pop_8 (by decide) ?_
  refine lv_iadd hx hb d_Q_pop_9 ?_
  refine lv_ldc (v := (65535 : Int32)) hx hb hC.1.2.2.2.1 (hC.1.2.2.2.2 _ m_27) d_Q_pop_10 ?_
  refine lv_iand hx hb d_Q_pop_12 ?_
  refine cl_Vip (j := 3) (As := [.int (((M0 5 7) + (1 : Int32)) &&& (65535 : Int32))]) hC hw (ct_Y_load _ _ _ hk) m_88 mw_Y_load rfl ⟨rfl, rfl, Nat.le_of_ble_eq_true rfl, Nat.le_of_ble_eq_true rfl⟩ rfl rfl rfl hl.1 rfl (Nat.le_of_ble_eq_true rfl) d_Q_pop_13 (fun H locs x1 hk hw => ?_)
  refine lv_bipush (v := 8) hx hb d_Q_pop_16 (by decide) ?_
  refine lv_ishl hx hb d_Q_pop_18 ?_
  refine lv_aload_n hx hb d_Q_pop_19 rfl (lv_at hl 0 rfl) ?_
  refine g_Q_memory hC hw m_74 d_Q_pop_20 ?_
  refine lv_aload_n hx hb d_Q_pop_23 rfl (lv_at hl 0 rfl) ?_
  refine g_Q_sp hC hw m_28 d_Q_pop_24 ?_
  refine cl_Vip (j := 3) (As := [.int (M0 5 7)]) hC hw (ct_Y_load _ _ _ hk) m_88 mw_Y_load rfl ⟨rfl, rfl, Nat.le_of_ble_eq_true rfl, Nat.le_of_ble_eq_true rfl⟩ rfl rfl rfl hl.1 rfl (Nat.le_of_ble_eq_true rfl) d_Q_pop_27 (fun H locs x2 hk hw => ?_)
  refine lv_ior hx hb d_Q_pop_30 ?_
  refine lv_topi (fun x3 e_x3 => ?_)
  have hk := hk x3 e_x3
  refine lv_istore_n (lv' := [(1, .int x3), (0, .ref (ad 5))]) hx hb d_Q_pop_31 rfl hl (by decide) rfl (fun ls hl => ?_)
  refine lv_aload_n hx hb d_Q_pop_32 rfl (lv_at hl 1 rfl) ?_
  refine lv_aload_n hx hb d_Q_pop_33 rfl (lv_at hl 1 rfl) ?_
  refine g_Q_sp hC hw m_28 d_Q_pop_34 ?_
  refine lv_iconst (v := 2) hx hb d_Q_pop_37 (by decide) ?_
  refine lv_iadd hx hb d_Q_pop_38 ?_
  refine lv_ldc (v := (65535 : Int32)) hx hb hC.1.2.2.2.1 (hC.1.2.2.2.2 _ m_27) d_Q_pop_39 ?_
  refine lv_iand hx hb d_Q_pop_41 ?_
  refine p_Q_sp hC hw m_28 d_Q_pop_42 (fun H locs M4 e_M4 hw => ?_)
  have hk := hk M4 e_M4
  refine lv_aload_n hx hb d_Q_pop_45 rfl (lv_at hl 1 rfl) ?_
  refine lv_dup hx hb d_Q_pop_46 rfl ?_
  refine g_Q_time hC hw m_76 d_Q_pop_47 ?_
  refine lv_iconst (v := 2) hx hb d_Q_pop_50 (by decide) ?_
  refine lv_iadd hx hb d_Q_pop_51 ?_
  refine p_Q_time hC hw m_76 d_Q_pop_52 (fun H locs M5 e_M5 hw => ?_)
  have hk := hk M5 e_M5
  refine lv_iload_n hx hb d_Q_pop_55 rfl (lv_at hl 0 rfl) ?_
  exact rt_i hQQ hx hb hr hlk hw ⟨_, rfl, hk⟩ d_Q_pop_56
set_option maxHeartbeats 4000000 in
set_option maxRecDepth 100000 in
theorem ct_Q_returnIf {l : Launch} {D : va_G} {cA : ClassId} {ad tb : Nat → Nat} (M0 : Mem) (a1 : Int32) (Q : Mem → Prop) (hk : wp_Q_returnIf M0 a1 Q) : Ct l y_Q_returnIf ws_Q_returnIf rm_Q_returnIf D (ceC ad cA) cA tb [.ref (ad 5), .int a1] M0 (QV Q) := by
  refine Ct.of (own := "TileConsole$Processor") (cc := b_Q_returnIf) (maxL := 2) (ret := none) ceC_fix (by decide) rfl rfl (Nat.le_of_ble_eq_true rfl) ?_
  intro p e s m args below meth c A QQ ls H locs hQQ hC hr hlk hw hl
  have hx := hC.1.1
  have hb := hC.1.2.1
  unfold wp_Q_returnIf at hk
  have hl : lv_has ls 2 [(0, .ref (ad 5)), (1, .int a1)] := hl
  refine lv_aload_n hx hb d_Q_returnIf_0 rfl (lv_at hl 0 rfl) ?_
  refine lv_dup hx hb d_Q_returnIf_1 rfl ?_
  refine g_Q_time hC hw m_76 d_Q_returnIf_2 ?_
  refine lv_iconst (v := 1) hx hb d_Q_returnIf_5 (by decide) ?_
  refine lv_iadd hx hb d_Q_returnIf_6 ?_
  refine p_Q_time hC hw m_76 d_Q_returnIf_7 (fun H locs M1 e_M1 hw => ?_)
  have hk := hk M1 e_M1
  refine lv_iload_n hx hb d_Q_returnIf_10 rfl (lv_at hl 1 rfl) ?_
  have hj1 : ∀ (H : Heap) (locs : List Loc) (ls : Array Slot) (M6 : Mem), wp_Q_returnIf_j1 M6 Q → Wd D (ceC ad cA) A s H locs M6 → lv_has ls 2 [(0, .ref (ad 5)), (1, .int a1)] → W p l e rm_Q_returnIf s m args below meth c H locs 0 0 QQ (F0 m 23 ls []) := by
    intro H locs ls M6 hk hw hl
    unfold wp_Q_returnIf_j1 at hk
    exact rt_v hQQ hx hb hr hlk hw ⟨rfl, hk⟩ d_Q_returnIf_23
  refine lv_if_eq (tgt := 23) hx hb d_Q_returnIf_11 (by decide) (fun hc => ?_) (fun hc => ?_)
  · have hk := hk.1 hc
    exact hj1 _ _ _ _ hk hw (lv_sub hl [0, 1] rfl)
  · have hk := hk.2 hc
    refine lv_aload_n hx hb d_Q_returnIf_14 rfl (lv_at hl 0 rfl) ?_
    refine lv_iconst (v := 1) hx hb d_Q_returnIf_15 (by decide) ?_
    refine lv_aload_n hx hb d_Q_returnIf_16 rfl (lv_at hl 0 rfl) ?_
    refine cl_Vi (j := 5) (As := []) hC hw (ct_Q_pop _  _ hk) m_113 mw_Q_pop rfl ⟨rfl, rfl, Nat.le_of_ble_eq_true rfl, Nat.le_of_ble_eq_true rfl⟩ rfl rfl rfl hl.1 rfl (Nat.le_of_ble_eq_true rfl) d_Q_returnIf_17 (fun H locs x7 M8 hk hw => ?_)
    refine cl_Vv (j := 5) (As := [.int (1 : Int32), .int x7]) hC hw (ct_Q_jump _ _ _ _ hk) m_95 mw_Q_jump rfl ⟨rfl, rfl, Nat.le_of_ble_eq_true rfl, Nat.le_of_ble_eq_true rfl⟩ rfl rfl rfl hl.1 rfl (Nat.le_of_ble_eq_true rfl) d_Q_returnIf_20 (fun H locs M9 hk hw => ?_)
    exact hj1 _ _ _ _ hk hw (lv_sub hl [0, 1] rfl)
set_option maxHeartbeats 4000000 in
set_option maxRecDepth 100000 in
theorem ct_Q_addToStackPointer {l : Launch} {D : va_G} {cA : ClassId} {ad tb : Nat → Nat} (M0 : Mem) (a1 : Int32) (a2 : Int32) (Q : Mem → Prop) (hk : wp_Q_addToStackPointer M0 a1 a2 Q) : Ct l y_Q_addToStackPointer ws_Q_addToStackPointer rm_Q_addToStackPointer D (ceC ad cA) cA tb [.ref (ad 5), .int a1, .int a2] M0 (QV Q) := by
  refine Ct.of (own := "TileConsole$Processor") (cc := b_Q_addToStackPointer) (maxL := 5) (ret := none) ceC_fix (by decide) rfl rfl (Nat.le_of_ble_eq_true rfl) ?_
  intro p e s m args below meth c A QQ ls H locs hQQ hC hr hlk hw hl
  have hx := hC.1.1
  have hb := hC.1.2.1
  unfold wp_Q_addToStackPointer at hk
  have hl : lv_has ls 5 [(0, .ref (ad 5)), (1, .int a1), (2, .int a2)] := hl
  refine lv_aload_n hx hb d_Q_addToStackPointer_0 rfl (lv_at hl 0 rfl) ?_
  refine g_Q_sp hC hw m_28 d_Q_addToStackPointer_1 ?_
  refine lv_bipush (v := 15) hx hb d_Q_addToStackPointer_4 (by decide) ?_
  refine lv_iand hx hb d_Q_addToStackPointer_6 ?_
  refine lv_iload_n hx hb d_Q_addToStackPointer_7 rfl (lv_at hl 2 rfl) ?_
  refine lv_bipush (v := 15) hx hb d_Q_addToStackPointer_8 (by decide) ?_
  refine lv_iand hx hb d_Q_addToStackPointer_10 ?_
  refine lv_iadd hx hb d_Q_addToStackPointer_11 ?_
  refine lv_bipush (v := 15) hx hb d_Q_addToStackPointer_12 (by decide) ?_
  have hj1 : ∀ (H : Heap) (locs : List Loc) (ls : Array Slot) (x16 : Int32), wp_Q_addToStackPointer_j1 M0 a1 a2 x16 Q → Wd D (ceC ad cA) A s H locs M0 → lv_has ls 5 [(0, .ref (ad 5)), (1, .int a1), (2, .int a2)] → W p l e rm_Q_addToStackPointer s m args below meth c H locs 0 0 QQ (F0 m 23 ls [.int x16]) := by
    intro H locs ls x16 hk hw hl
    unfold wp_Q_addToStackPointer_j1 at hk
    refine lv_istore_n (lv' := [(3, .int x16), (0, .ref (ad 5)), (1, .int a1), (2, .int a2)]) hx hb d_Q_addToStackPointer_23 rfl hl (by decide) rfl (fun ls hl => ?_)
    refine lv_aload_n hx hb d_Q_addToStackPointer_24 rfl (lv_at hl 1 rfl) ?_
    refine g_Q_sp hC hw m_28 d_Q_addToStackPointer_25 ?_
    refine lv_sipush (v := 255) hx hb d_Q_addToStackPointer_28 (by decide) ?_
    refine lv_iand hx hb d_Q_addToStackPointer_31 ?_
    refine lv_iload_n hx hb d_Q_addToStackPointer_32 rfl (lv_at hl 3 rfl) ?_
    refine lv_iadd hx hb d_Q_addToStackPointer_33 ?_
    refine lv_sipush (v := 255) hx hb d_Q_addToStackPointer_34 (by decide) ?_
    have hj2 : ∀ (H : Heap) (locs : List Loc) (ls : Array Slot) (x24 : Int32), wp_Q_addToStackPointer_j2 M0 a1 a2 x16 x24 Q → Wd D (ceC ad cA) A s H locs M0 → lv_has ls 5 [(0, .ref (ad 5)), (1, .int a1), (2, .int a2), (3, .int x16)] → W p l e rm_Q_addToStackPointer s m args below meth c H locs 0 0 QQ (F0 m 46 ls [.int x24]) := by
      intro H locs ls x24 hk hw hl
      unfold wp_Q_addToStackPointer_j2 at hk
      refine lv_istore (lv' := [(4, .int x24), (0, .ref (ad 5)), (1, .int a1), (2, .int a2), (3, .int x16)]) hx hb d_Q_addToStackPointer_46 hl (by decide) rfl (fun ls hl => ?_)
      refine lv_aload_n hx hb d_Q_addToStackPointer_48 rfl (lv_at hl 1 rfl) ?_
      refine g_Q_r hC hw m_26 d_Q_addToStackPointer_49 ?_
      refine lv_bipush (v := 6) hx hb d_Q_addToStackPointer_52 (by decide) ?_
      refine lv_iload_n hx hb d_Q_addToStackPointer_54 rfl (lv_at hl 4 rfl) ?_
      refine lv_iload hx hb d_Q_addToStackPointer_55 (lv_at hl 0 rfl) ?_
      refine lv_ior hx hb d_Q_addToStackPointer_57 ?_
      refine st_17 (k := 6) hC hw (vin_lit rfl) (by decide) d_Q_addToStackPointer_58 (fun H locs M25 e_M25 hw => ?_)
      have hk := hk M25 e_M25
      refine lv_aload_n hx hb d_Q_addToStackPointer_59 rfl (lv_at hl 1 rfl) ?_
      refine lv_iload_n hx hb d_Q_addToStackPointer_60 rfl (lv_at hl 2 rfl) ?_
      refine lv_aload_n hx hb d_Q_addToStackPointer_61 rfl (lv_at hl 1 rfl) ?_
      refine g_Q_sp hC hw m_28 d_Q_addToStackPointer_62 ?_
      refine lv_iload_n hx hb d_Q_addToStackPointer_65 rfl (lv_at hl 3 rfl) ?_
      refine lv_i2b hx hb d_Q_addToStackPointer_66 rfl ?_
      refine lv_iadd hx hb d_Q_addToStackPointer_67 ?_
      refine cl_Vv (j := 5) (As := [.int a1, .int ((M25 5 7) + (a2.toInt8.toInt32))]) hC hw (ct_Q_setPair _ _ _ _ hk) m_29 mw_Q_setPair rfl ⟨rfl, rfl, Nat.le_of_ble_eq_true rfl, Nat.le_of_ble_eq_true rfl⟩ rfl rfl rfl hl.1 rfl (Nat.le_of_ble_eq_true rfl) d_Q_addToStackPointer_68 (fun H locs M26 hk hw => ?_)
      refine lv_aload_n hx hb d_Q_addToStackPointer_71 rfl (lv_at hl 1 rfl) ?_
      refine lv_dup hx hb d_Q_addToStackPointer_72 rfl ?_
      refine g_Q_time hC hw m_76 d_Q_addToStackPointer_73 ?_
      refine lv_iload_n hx hb d_Q_addToStackPointer_76 rfl (lv_at hl 2 rfl) ?_
      refine lv_iconst (v := 3) hx hb d_Q_addToStackPointer_77 (by decide) ?_
      have hj3 : ∀ (H : Heap) (locs : List Loc) (ls : Array Slot) (x29 : Int32), wp_Q_addToStackPointer_j3 M26 x29 Q → Wd D (ceC ad cA) A s H locs M26 → lv_has ls 5 [(0, .ref (ad 5)), (1, .int a1), (2, .int a2), (3, .int x16), (4, .int x24)] → W p l e rm_Q_addToStackPointer s m args below meth c H locs 0 0 QQ (F0 m 86 ls [.int x29, .int (M26 5 10), .ref (ad 5)]) := by
        intro H locs ls x29 hk hw hl
        unfold wp_Q_addToStackPointer_j3 at hk
        refine lv_iadd hx hb d_Q_addToStackPointer_86 ?_
        refine p_Q_time hC hw m_76 d_Q_addToStackPointer_87 (fun H locs M30 e_M30 hw => ?_)
        have hk := hk M30 e_M30
        exact rt_v hQQ hx hb hr hlk hw ⟨rfl, hk⟩ d_Q_addToStackPointer_90
      refine lv_icmp_ne (tgt := 85) hx hb d_Q_addToStackPointer_78 (by decide) (fun hc => ?_) (fun hc => ?_)
      · have hk := hk.1 hc
        refine lv_iconst (v := 1) hx hb d_Q_addToStackPointer_85 (by decide) ?_
        exact hj3 _ _ _ _ hk hw (lv_sub hl [1, 2, 3, 4, 0] rfl)
      · have hk := hk.2 hc
        refine lv_iconst (v := 2) hx hb d_Q_addToStackPointer_81 (by decide) ?_
        refine lv_goto (tgt := 86) hx hb d_Q_addToStackPointer_82 (by decide) ?_
        exact hj3 _ _ _ _ hk hw (lv_sub hl [1, 2, 3, 4, 0] rfl)
    refine lv_icmp_le (tgt := 45) hx hb d_Q_addToStackPointer_37 (by decide) (fun hc => ?_) (fun hc => ?_)
    · have hk := hk.1 hc
      refine lv_iconst (v := 0) hx hb d_Q_addToStackPointer_45 (by decide) ?_
      exact hj2 _ _ _ _ hk hw (lv_sub hl [1, 2, 3, 0] rfl)
    · have hk := hk.2 hc
      refine lv_bipush (v := 16) hx hb d_Q_addToStackPointer_40 (by decide) ?_
      refine lv_goto (tgt := 46) hx hb d_Q_addToStackPointer_42 (by decide) ?_
      exact hj2 _ _ _ _ hk hw (lv_sub hl [1, 2, 3, 0] rfl)
  refine lv_icmp_le (tgt := 22) hx hb d_Q_addToStackPointer_14 (by decide) (fun hc => ?_) (fun hc => ?_)
  · have hk := hk.1 hc
    refine lv_iconst (v := 0) hx hb d_Q_addToStackPointer_22 (by decide) ?_
    exact hj1 _ _ _ _ hk hw (lv_sub hl [0, 1, 2] rfl)
  · have hk := hk.2 hc
    refine lv_bipush (v := 32) hx hb d_Q_addToStackPointer_17 (by decide) ?_
    refine lv_goto (tgt := 23) hx hb d_Q_addToStackPointer_19 (by decide) ?_
    exact hj1 _ _ _ _ hk hw (lv_sub hl [0, 1, 2] rfl)
set_option maxHeartbeats 4000000 in
set_option maxRecDepth 100000 in
theorem ct_Q_setStackPair {l : Launch} {D : va_G} {cA : ClassId} {ad tb : Nat → Nat} (M0 : Mem) (a1 : Int32) (a2 : Int32) (Q : Mem → Prop) (hk : wp_Q_setStackPair M0 a1 a2 Q) : Ct l y_Q_setStackPair ws_Q_setStackPair rm_Q_setStackPair D (ceC ad cA) cA tb [.ref (ad 5), .int a1, .int a2] M0 (QV Q) := by
  refine Ct.of (own := "TileConsole$Processor") (cc := b_Q_setStackPair) (maxL := 3) (ret := none) ceC_fix (by decide) rfl rfl (Nat.le_of_ble_eq_true rfl) ?_
  intro p e s m args below meth c A QQ ls H locs hQQ hC hr hlk hw hl
  have hx := hC.1.1
  have hb := hC.1.2.1
  unfold wp_Q_setStackPair at hk
  have hl : lv_has ls 3 [(0, .ref (ad 5)), (1, .int a1), (2, .int a2)] := hl
  refine lv_iload_n hx hb d_Q_setStackPair_0 rfl (lv_at hl 1 rfl) ?_
  refine lv_iconst (v := 3) hx hb d_Q_setStackPair_1 (by decide) ?_
  have hj1 : ∀ (H : Heap) (locs : List Loc) (ls : Array Slot) (M5 : Mem), wp_Q_setStackPair_j1 M5 Q → Wd D (ceC ad cA) A s H locs M5 → lv_has ls 3 [(0, .ref (ad 5)), (1, .int a1), (2, .int a2)] → W p l e rm_Q_setStackPair s m args below meth c H locs 0 0 QQ (F0 m 37 ls []) := by
    intro H locs ls M5 hk hw hl
    unfold wp_Q_setStackPair_j1 at hk
    exact rt_v hQQ hx hb hr hlk hw ⟨rfl, hk⟩ d_Q_setStackPair_37
  refine lv_icmp_ne (tgt := 31) hx hb d_Q_setStackPair_2 (by decide) (fun hc => ?_) (fun hc => ?_)
  · have hk := hk.1 hc
    refine lv_aload_n hx hb d_Q_setStackPair_31 rfl (lv_at hl 0 rfl) ?_
    refine lv_iload_n hx hb d_Q_setStackPair_32 rfl (lv_at hl 1 rfl) ?_
    refine lv_iload_n hx hb d_Q_setStackPair_33 rfl (lv_at hl 2 rfl) ?_
    refine cl_Vv (j := 5) (As := [.int a1, .int a2]) hC hw (ct_Q_setPair _ _ _ _ hk) m_29 mw_Q_setPair rfl ⟨rfl, rfl, Nat.le_of_ble_eq_true rfl, Nat.le_of_ble_eq_true rfl⟩ rfl rfl rfl hl.1 rfl (Nat.le_of_ble_eq_true rfl) d_Q_setStackPair_34 (fun H locs M6 hk hw => ?_)
    exact hj1 _ _ _ _ hk hw (lv_sub hl [0, 1, 2] rfl)
  · have hk := hk.2 hc
    refine lv_aload_n hx hb d_Q_setStackPair_5 rfl (lv_at hl 0 rfl) ?_
    refine g_Q_r hC hw m_26 d_Q_setStackPair_6 ?_
    refine lv_bipush (v := 7) hx hb d_Q_setStackPair_9 (by decide) ?_
    refine lv_iload_n hx hb d_Q_setStackPair_11 rfl (lv_at hl 2 rfl) ?_
    refine lv_bipush (v := 8) hx hb d_Q_setStackPair_12 (by decide) ?_
    refine lv_ishr hx hb d_Q_setStackPair_14 ?_
    refine st_17 (k := 7) hC hw (vin_lit rfl) (by decide) d_Q_setStackPair_15 (fun H locs M7 e_M7 hw => ?_)
    have hk := hk M7 e_M7
    refine lv_aload_n hx hb d_Q_setStackPair_16 rfl (lv_at hl 0 rfl) ?_
    refine g_Q_r hC hw m_26 d_Q_setStackPair_17 ?_
    refine lv_bipush (v := 6) hx hb d_Q_setStackPair_20 (by decide) ?_
    refine lv_iload_n hx hb d_Q_setStackPair_22 rfl (lv_at hl 2 rfl) ?_
    refine lv_sipush (v := 240) hx hb d_Q_setStackPair_23 (by decide) ?_
    refine lv_iand hx hb d_Q_setStackPair_26 ?_
    refine st_17 (k := 6) hC hw (vin_lit rfl) (by decide) d_Q_setStackPair_27 (fun H locs M8 e_M8 hw => ?_)
    have hk := hk M8 e_M8
    refine lv_goto (tgt := 37) hx hb d_Q_setStackPair_28 (by decide) ?_
    exact hj1 _ _ _ _ hk hw (lv_sub hl [0, 1, 2] rfl)
set_option maxHeartbeats 4000000 in
set_option maxRecDepth 100000 in
theorem ct_Q_switchInterrupts {l : Launch} {D : va_G} {cA : ClassId} {ad tb : Nat → Nat} (M0 : Mem) (a1 : Int32) (Q : Mem → Prop) (hk : wp_Q_switchInterrupts M0 a1 Q) : Ct l y_Q_switchInterrupts ws_Q_switchInterrupts rm_Q_switchInterrupts D (ceC ad cA) cA tb [.ref (ad 5), .int a1] M0 (QV Q) := by
  refine Ct.of (own := "TileConsole$Processor") (cc := b_Q_switchInterrupts) (maxL := 2) (ret := none) ceC_fix (by decide) rfl rfl (Nat.le_of_ble_eq_true rfl) ?_
  intro p e s m args below meth c A QQ ls H locs hQQ hC hr hlk hw hl
  have hx := hC.1.1
  have hb := hC.1.2.1
  unfold wp_Q_switchInterrupts at hk
  have hl : lv_has ls 2 [(0, .ref (ad 5)), (1, .int a1)] := hl
  refine lv_aload_n hx hb d_Q_switchInterrupts_0 rfl (lv_at hl 0 rfl) ?_
  refine lv_iload_n hx hb d_Q_switchInterrupts_1 rfl (lv_at hl 1 rfl) ?_
  have hj1 : ∀ (H : Heap) (locs : List Loc) (ls : Array Slot) (x7 : Int32), wp_Q_switchInterrupts_j1 M0 a1 x7 Q → Wd D (ceC ad cA) A s H locs M0 → lv_has ls 2 [(0, .ref (ad 5)), (1, .int a1)] → W p l e rm_Q_switchInterrupts s m args below meth c H locs 0 0 QQ (F0 m 17 ls [.int x7, .ref (ad 5)]) := by
    intro H locs ls x7 hk hw hl
    unfold wp_Q_switchInterrupts_j1 at hk
    obtain ⟨hz, hk⟩ := hk
    refine p_Q_armed hC hw hz m_35 d_Q_switchInterrupts_17 (fun H locs M8 e_M8 hw => ?_)
    have hk := hk M8 e_M8
    refine lv_aload_n hx hb d_Q_switchInterrupts_20 rfl (lv_at hl 0 rfl) ?_
    refine lv_aload_n hx hb d_Q_switchInterrupts_21 rfl (lv_at hl 0 rfl) ?_
    refine g_Q_ime hC hw m_32 d_Q_switchInterrupts_22 ?_
    have hj2 : ∀ (H : Heap) (locs : List Loc) (ls : Array Slot) (x11 : Int32), wp_Q_switchInterrupts_j2 M8 x11 Q → Wd D (ceC ad cA) A s H locs M8 → lv_has ls 2 [(0, .ref (ad 5)), (1, .int a1)] → W p l e rm_Q_switchInterrupts s m args below meth c H locs 0 0 QQ (F0 m 37 ls [.int x11, .ref (ad 5)]) := by
      intro H locs ls x11 hk hw hl
      unfold wp_Q_switchInterrupts_j2 at hk
      obtain ⟨hz, hk⟩ := hk
      refine p_Q_ime hC hw hz m_32 d_Q_switchInterrupts_37 (fun H locs M12 e_M12 hw => ?_)
      have hk := hk M12 e_M12
      exact rt_v hQQ hx hb hr hlk hw ⟨rfl, hk⟩ d_Q_switchInterrupts_40
    have hj3 : ∀ (H : Heap) (locs : List Loc) (ls : Array Slot), wp_Q_switchInterrupts_j3 M8 Q → Wd D (ceC ad cA) A s H locs M8 → lv_has ls 2 [(0, .ref (ad 5)), (1, .int a1)] → W p l e rm_Q_switchInterrupts s m args below meth c H locs 0 0 QQ (F0 m 36 ls [.ref (ad 5)]) := by
      intro H locs ls  hk hw hl
      unfold wp_Q_switchInterrupts_j3 at hk
      refine lv_iconst (v := 0) hx hb d_Q_switchInterrupts_36 (by decide) ?_
      exact hj2 _ _ _ _ hk hw (lv_sub hl [0, 1] rfl)
    refine lv_if_eq (tgt := 36) hx hb d_Q_switchInterrupts_25 (by decide) (fun hc => ?_) (fun hc => ?_)
    · have hk := hk.1 hc
      exact hj3 _ _ _  hk hw (lv_sub hl [0, 1] rfl)
    · have hk := hk.2 hc
      refine lv_iload_n hx hb d_Q_switchInterrupts_28 rfl (lv_at hl 1 rfl) ?_
      refine lv_if_eq (tgt := 36) hx hb d_Q_switchInterrupts_29 (by decide) (fun hc => ?_) (fun hc => ?_)
      · have hk := hk.1 hc
        exact hj3 _ _ _  hk hw (lv_sub hl [0, 1] rfl)
      · have hk := hk.2 hc
        refine lv_iconst (v := 1) hx hb d_Q_switchInterrupts_32 (by decide) ?_
        refine lv_goto (tgt := 37) hx hb d_Q_switchInterrupts_33 (by decide) ?_
        exact hj2 _ _ _ _ hk hw (lv_sub hl [0, 1] rfl)
  have hj4 : ∀ (H : Heap) (locs : List Loc) (ls : Array Slot), wp_Q_switchInterrupts_j4 M0 a1 Q → Wd D (ceC ad cA) A s H locs M0 → lv_has ls 2 [(0, .ref (ad 5)), (1, .int a1)] → W p l e rm_Q_switchInterrupts s m args below meth c H locs 0 0 QQ (F0 m 16 ls [.ref (ad 5)]) := by
    intro H locs ls  hk hw hl
    unfold wp_Q_switchInterrupts_j4 at hk
    refine lv_iconst (v := 0) hx hb d_Q_switchInterrupts_16 (by decide) ?_
    exact hj1 _ _ _ _ hk hw (lv_sub hl [0, 1] rfl)
  refine lv_if_eq (tgt := 16) hx hb d_Q_switchInterrupts_2 (by decide) (fun hc => ?_) (fun hc => ?_)
  · have hk := hk.1 hc
    exact hj4 _ _ _  hk hw (lv_sub hl [0, 1] rfl)
  · have hk := hk.2 hc
    refine lv_aload_n hx hb d_Q_switchInterrupts_5 rfl (lv_at hl 0 rfl) ?_
    refine g_Q_ime hC hw m_32 d_Q_switchInterrupts_6 ?_
    refine lv_if_ne (tgt := 16) hx hb d_Q_switchInterrupts_9 (by decide) (fun hc => ?_) (fun hc => ?_)
    · have hk := hk.1 hc
      exact hj4 _ _ _  hk hw (lv_sub hl [0, 1] rfl)
    · have hk := hk.2 hc
      refine lv_iconst (v := 1) hx hb d_Q_switchInterrupts_12 (by decide) ?_
      refine lv_goto (tgt := 17) hx hb d_Q_switchInterrupts_13 (by decide) ?_
      exact hj1 _ _ _ _ hk hw (lv_sub hl [0, 1] rfl)
set_option maxHeartbeats 4000000 in
set_option maxRecDepth 100000 in
theorem ct_Q_doHigh {l : Launch} {D : va_G} {cA : ClassId} {ad tb : Nat → Nat} (M0 : Mem) (a1 : Int32) (a2 : Int32) (Q : Mem → Prop) (hk : wp_Q_doHigh M0 a1 a2 Q) : Ct l y_Q_doHigh ws_Q_doHigh rm_Q_doHigh D (ceC ad cA) cA tb [.ref (ad 5), .int a1, .int a2] M0 (QV Q) := by
  refine Ct.of (own := "TileConsole$Processor") (cc := b_Q_doHigh) (maxL := 4) (ret := none) ceC_fix (by decide) rfl rfl (Nat.le_of_ble_eq_true rfl) ?_
  intro p e s m args below meth c A QQ ls H locs hQQ hC hr hlk hw hl
  have hx := hC.1.1
  have hb := hC.1.2.1
  unfold wp_Q_doHigh at hk
  have hl : lv_has ls 4 [(0, .ref (ad 5)), (1, .int a1), (2, .int a2)] := hl
  refine lv_iload_n hx hb d_Q_doHigh_0 rfl (lv_at hl 1 rfl) ?_
  refine lv_iconst (v := 1) hx hb d_Q_doHigh_1 (by decide) ?_
  refine lv_iand hx hb d_Q_doHigh_2 ?_
  have hj1 : ∀ (H : Heap) (locs : List Loc) (ls : Array Slot) (x122 : Int32), wp_Q_doHigh_j1 M0 a1 a2 x122 Q → Wd D (ceC ad cA) A s H locs M0 → lv_has ls 4 [(0, .ref (ad 5)), (1, .int a1), (2, .int a2)] → W p l e rm_Q_doHigh s m args below meth c H locs 0 0 QQ (F0 m 11 ls [.int x122]) := by
    intro H locs ls x122 hk hw hl
    unfold wp_Q_doHigh_j1 at hk
    refine lv_istore_n (lv' := [(3, .int x122), (0, .ref (ad 5)), (1, .int a1), (2, .int a2)]) hx hb d_Q_doHigh_11 rfl hl (by decide) rfl (fun ls hl => ?_)
    refine lv_iload_n hx hb d_Q_doHigh_12 rfl (lv_at hl 3 rfl) ?_
    have hj2 : ∀ (H : Heap) (locs : List Loc) (ls : Array Slot) (M183 : Mem), wp_Q_doHigh_j2 M183 Q → Wd D (ceC ad cA) A s H locs M183 → lv_has ls 4 [(0, .ref (ad 5)), (1, .int a1), (2, .int a2), (3, .int x122)] → W p l e rm_Q_doHigh s m args below meth c H locs 0 0 QQ (F0 m 306 ls []) := by
      intro H locs ls M183 hk hw hl
      unfold wp_Q_doHigh_j2 at hk
      exact rt_v hQQ hx hb hr hlk hw ⟨rfl, hk⟩ d_Q_doHigh_306
    by_cases hs4 : (a2 = (0 : Int32))
    · have hk := hk.1 hs4
      refine lv_tableIn (x := a2) (off := 27) (tgt := 40) hx hb d_Q_doHigh_13 (by rw [hs4]; decide) (by rw [hs4]; decide) (by rw [hs4]; decide) (by decide) ?_
      refine lv_iload_n hx hb d_Q_doHigh_40 rfl (lv_at hl 2 rfl) ?_
      refine lv_iconst (v := 4) hx hb d_Q_doHigh_41 (by decide) ?_
      refine lv_icmp_ge (tgt := 57) hx hb d_Q_doHigh_42 (by decide) (fun hc => ?_) (fun hc => ?_)
      · have hk := hk.1 hc
        refine lv_iload_n hx hb d_Q_doHigh_57 rfl (lv_at hl 0 rfl) ?_
        refine lv_if_eq (tgt := 82) hx hb d_Q_doHigh_58 (by decide) (fun hc => ?_) (fun hc => ?_)
        · have hk := hk.1 hc
          refine lv_aload_n hx hb d_Q_doHigh_82 rfl (lv_at hl 1 rfl) ?_
          refine lv_ldc (v := (65280 : Int32)) hx hb hC.1.2.2.2.1 (hC.1.2.2.2.2 _ m_114) d_Q_doHigh_83 ?_
          refine lv_aload_n hx hb d_Q_doHigh_85 rfl (lv_at hl 1 rfl) ?_
          refine cl_Vi (j := 5) (As := []) hC hw (ct_Q_fetch _  _ hk) m_89 mw_Q_fetch rfl ⟨rfl, rfl, Nat.le_of_ble_eq_true rfl, Nat.le_of_ble_eq_true rfl⟩ rfl rfl rfl hl.1 rfl (Nat.le_of_ble_eq_true rfl) d_Q_doHigh_86 (fun H locs x184 M185 hk hw => ?_)
          refine lv_ior hx hb d_Q_doHigh_89 ?_
          refine lv_iload_n hx hb d_Q_doHigh_90 rfl (lv_at hl 2 rfl) ?_
          refine lv_bipush (v := 6) hx hb d_Q_doHigh_91 (by decide) ?_
          have hj3 : ∀ (H : Heap) (locs : List Loc) (ls : Array Slot) (x188 : Int32), wp_Q_doHigh_j3 x184 M185 x188 Q → Wd D (ceC ad cA) A s H locs M185 → lv_has ls 4 [(0, .ref (ad 5)), (1, .int a1), (2, .int a2), (3, .int x122)] → W p l e rm_Q_doHigh s m args below meth c H locs 0 0 QQ (F0 m 101 ls [.int x188, .int ((65280 : Int32) ||| x184), .ref (ad 5)]) := by
            intro H locs ls x188 hk hw hl
            unfold wp_Q_doHigh_j3 at hk
            refine cl_Vv (j := 5) (As := [.int ((65280 : Int32) ||| x184), .int x188]) hC hw (ct_Q_copyA _ _ _ _ hk) m_104 mw_Q_copyA rfl ⟨rfl, rfl, Nat.le_of_ble_eq_true rfl, Nat.le_of_ble_eq_true rfl⟩ rfl rfl rfl hl.1 rfl (Nat.le_of_ble_eq_true rfl) d_Q_doHigh_101 (fun H locs M189 hk hw => ?_)
            refine lv_goto (tgt := 306) hx hb d_Q_doHigh_104 (by decide) ?_
            exact hj2 _ _ _ _ hk hw (lv_sub hl [0, 1, 2, 3] rfl)
          refine lv_icmp_ne (tgt := 100) hx hb d_Q_doHigh_93 (by decide) (fun hc => ?_) (fun hc => ?_)
          · have hk := hk.1 hc
            refine lv_iconst (v := 0) hx hb d_Q_doHigh_100 (by decide) ?_
            exact hj3 _ _ _ _ hk hw (lv_sub hl [1, 2, 3, 0] rfl)
          · have hk := hk.2 hc
            refine lv_iconst (v := 1) hx hb d_Q_doHigh_96 (by decide) ?_
            refine lv_goto (tgt := 101) hx hb d_Q_doHigh_97 (by decide) ?_
            exact hj3 _ _ _ _ hk hw (lv_sub hl [1, 2, 3, 0] rfl)
        · have hk := hk.2 hc
          refine lv_aload_n hx hb d_Q_doHigh_61 rfl (lv_at hl 1 rfl) ?_
          refine lv_iload_n hx hb d_Q_doHigh_62 rfl (lv_at hl 2 rfl) ?_
          refine lv_iconst (v := 5) hx hb d_Q_doHigh_63 (by decide) ?_
          have hj4 : ∀ (H : Heap) (locs : List Loc) (ls : Array Slot) (x194 : Int32), wp_Q_doHigh_j4 M0 x194 Q → Wd D (ceC ad cA) A s H locs M0 → lv_has ls 4 [(0, .ref (ad 5)), (1, .int a1), (2, .int a2), (3, .int x122)] → W p l e rm_Q_doHigh s m args below meth c H locs 0 0 QQ (F0 m 72 ls [.int x194, .ref (ad 5)]) := by
            intro H locs ls x194 hk hw hl
            unfold wp_Q_doHigh_j4 at hk
            refine lv_aload_n hx hb d_Q_doHigh_72 rfl (lv_at hl 0 rfl) ?_
            refine cl_Vi (j := 5) (As := []) hC hw (ct_Q_fetch _  _ hk) m_89 mw_Q_fetch rfl ⟨rfl, rfl, Nat.le_of_ble_eq_true rfl, Nat.le_of_ble_eq_true rfl⟩ rfl rfl rfl hl.1 rfl (Nat.le_of_ble_eq_true rfl) d_Q_doHigh_73 (fun H locs x195 M196 hk hw => ?_)
            refine cl_Vv (j := 5) (As := [.int x194, .int x195]) hC hw (ct_Q_addToStackPointer _ _ _ _ hk) m_115 mw_Q_addToStackPointer rfl ⟨rfl, rfl, Nat.le_of_ble_eq_true rfl, Nat.le_of_ble_eq_true rfl⟩ rfl rfl rfl hl.1 rfl (Nat.le_of_ble_eq_true rfl) d_Q_doHigh_76 (fun H locs M197 hk hw => ?_)
            refine lv_goto (tgt := 306) hx hb d_Q_doHigh_79 (by decide) ?_
            exact hj2 _ _ _ _ hk hw (lv_sub hl [0, 1, 2, 3] rfl)
          refine lv_icmp_ne (tgt := 71) hx hb d_Q_doHigh_64 (by decide) (fun hc => ?_) (fun hc => ?_)
          · have hk := hk.1 hc
            refine lv_iconst (v := 2) hx hb d_Q_doHigh_71 (by decide) ?_
            exact hj4 _ _ _ _ hk hw (lv_sub hl [1, 2, 3, 0] rfl)
          · have hk := hk.2 hc
            refine lv_iconst (v := 3) hx hb d_Q_doHigh_67 (by decide) ?_
            refine lv_goto (tgt := 72) hx hb d_Q_doHigh_68 (by decide) ?_
            exact hj4 _ _ _ _ hk hw (lv_sub hl [1, 2, 3, 0] rfl)
      · have hk := hk.2 hc
        refine lv_aload_n hx hb d_Q_doHigh_45 rfl (lv_at hl 1 rfl) ?_
        refine lv_aload_n hx hb d_Q_doHigh_46 rfl (lv_at hl 1 rfl) ?_
        refine lv_iload_n hx hb d_Q_doHigh_47 rfl (lv_at hl 2 rfl) ?_
        refine cl_Vip (j := 5) (As := [.int a1]) hC hw (ct_Q_holds _ _ _ hk) m_94 mw_Q_holds rfl ⟨rfl, rfl, Nat.le_of_ble_eq_true rfl, Nat.le_of_ble_eq_true rfl⟩ rfl rfl rfl hl.1 rfl (Nat.le_of_ble_eq_true rfl) d_Q_doHigh_48 (fun H locs x198 hk hw => ?_)
        refine cl_Vv (j := 5) (As := [.int x198]) hC hw (ct_Q_returnIf _ _ _ hk) m_116 mw_Q_returnIf rfl ⟨rfl, rfl, Nat.le_of_ble_eq_true rfl, Nat.le_of_ble_eq_true rfl⟩ rfl rfl rfl hl.1 rfl (Nat.le_of_ble_eq_true rfl) d_Q_doHigh_51 (fun H locs M199 hk hw => ?_)
        refine lv_goto (tgt := 306) hx hb d_Q_doHigh_54 (by decide) ?_
        exact hj2 _ _ _ _ hk hw (lv_sub hl [1, 2, 3, 0] rfl)
    · have hk := hk.2 hs4
      by_cases hs5 : (a2 = (1 : Int32))
      · have hk := hk.1 hs5
        refine lv_tableIn (x := a2) (off := 94) (tgt := 107) hx hb d_Q_doHigh_13 (by rw [hs5]; decide) (by rw [hs5]; decide) (by rw [hs5]; decide) (by decide) ?_
        refine lv_iload_n hx hb d_Q_doHigh_107 rfl (lv_at hl 0 rfl) ?_
        refine lv_if_ne (tgt := 125) hx hb d_Q_doHigh_108 (by decide) (fun hc => ?_) (fun hc => ?_)
        · have hk := hk.1 hc
          refine lv_iload_n hx hb d_Q_doHigh_125 rfl (lv_at hl 2 rfl) ?_
          refine lv_iconst (v := 4) hx hb d_Q_doHigh_126 (by decide) ?_
          refine lv_icmp_ge (tgt := 163) hx hb d_Q_doHigh_127 (by decide) (fun hc => ?_) (fun hc => ?_)
          · have hk := hk.1 hc
            refine lv_iload_n hx hb d_Q_doHigh_163 rfl (lv_at hl 2 rfl) ?_
            refine lv_iconst (v := 5) hx hb d_Q_doHigh_164 (by decide) ?_
            refine lv_icmp_ne (tgt := 180) hx hb d_Q_doHigh_165 (by decide) (fun hc => ?_) (fun hc => ?_)
            · have hk := hk.1 hc
              refine lv_aload_n hx hb d_Q_doHigh_180 rfl (lv_at hl 1 rfl) ?_
              refine lv_aload_n hx hb d_Q_doHigh_181 rfl (lv_at hl 1 rfl) ?_
              refine lv_iconst (v := 2) hx hb d_Q_doHigh_182 (by decide) ?_
              refine cl_Vip (j := 5) (As := [.int (2 : Int32)]) hC hw (ct_Q_pair _ _ _ hk) m_90 mw_Q_pair rfl ⟨rfl, rfl, Nat.le_of_ble_eq_true rfl, Nat.le_of_ble_eq_true rfl⟩ rfl rfl rfl hl.1 rfl (Nat.le_of_ble_eq_true rfl) d_Q_doHigh_183 (fun H locs x200 hk hw => ?_)
              refine p_Q_sp hC hw m_28 d_Q_doHigh_186 (fun H locs M201 e_M201 hw => ?_)
              have hk := hk M201 e_M201
              refine lv_aload_n hx hb d_Q_doHigh_189 rfl (lv_at hl 1 rfl) ?_
              refine lv_dup hx hb d_Q_doHigh_190 rfl ?_
              refine g_Q_time hC hw m_76 d_Q_doHigh_191 ?_
              refine lv_iconst (v := 1) hx hb d_Q_doHigh_194 (by decide) ?_
              refine lv_iadd hx hb d_Q_doHigh_195 ?_
              refine p_Q_time hC hw m_76 d_Q_doHigh_196 (fun H locs M202 e_M202 hw => ?_)
              have hk := hk M202 e_M202
              refine lv_goto (tgt := 306) hx hb d_Q_doHigh_199 (by decide) ?_
              exact hj2 _ _ _ _ hk hw (lv_sub hl [1, 2, 3, 0] rfl)
            · have hk := hk.2 hc
              refine lv_aload_n hx hb d_Q_doHigh_168 rfl (lv_at hl 1 rfl) ?_
              refine lv_aload_n hx hb d_Q_doHigh_169 rfl (lv_at hl 1 rfl) ?_
              refine lv_iconst (v := 2) hx hb d_Q_doHigh_170 (by decide) ?_
              refine cl_Vip (j := 5) (As := [.int (2 : Int32)]) hC hw (ct_Q_pair _ _ _ hk) m_90 mw_Q_pair rfl ⟨rfl, rfl, Nat.le_of_ble_eq_true rfl, Nat.le_of_ble_eq_true rfl⟩ rfl rfl rfl hl.1 rfl (Nat.le_of_ble_eq_true rfl) d_Q_doHigh_171 (fun H locs x203 hk hw => ?_)
              refine p_Q_pc hC hw m_31 d_Q_doHigh_174 (fun H locs M204 e_M204 hw => ?_)
              have hk := hk M204 e_M204
              refine lv_goto (tgt := 306) hx hb d_Q_doHigh_177 (by decide) ?_
              exact hj2 _ _ _ _ hk hw (lv_sub hl [1, 2, 3, 0] rfl)
          · have hk := hk.2 hc
            refine lv_aload_n hx hb d_Q_doHigh_130 rfl (lv_at hl 1 rfl) ?_
            refine lv_iconst (v := 1) hx hb d_Q_doHigh_131 (by decide) ?_
            refine lv_aload_n hx hb d_Q_doHigh_132 rfl (lv_at hl 1 rfl) ?_
            refine cl_Vi (j := 5) (As := []) hC hw (ct_Q_pop _  _ hk) m_113 mw_Q_pop rfl ⟨rfl, rfl, Nat.le_of_ble_eq_true rfl, Nat.le_of_ble_eq_true rfl⟩ rfl rfl rfl hl.1 rfl (Nat.le_of_ble_eq_true rfl) d_Q_doHigh_133 (fun H locs x205 M206 hk hw => ?_)
            refine cl_Vv (j := 5) (As := [.int (1 : Int32), .int x205]) hC hw (ct_Q_jump _ _ _ _ hk) m_95 mw_Q_jump rfl ⟨rfl, rfl, Nat.le_of_ble_eq_true rfl, Nat.le_of_ble_eq_true rfl⟩ rfl rfl rfl hl.1 rfl (Nat.le_of_ble_eq_true rfl) d_Q_doHigh_136 (fun H locs M207 hk hw => ?_)
            refine lv_aload_n hx hb d_Q_doHigh_139 rfl (lv_at hl 1 rfl) ?_
            refine lv_aload_n hx hb d_Q_doHigh_140 rfl (lv_at hl 1 rfl) ?_
            refine g_Q_ime hC hw m_32 d_Q_doHigh_141 ?_
            have hj5 : ∀ (H : Heap) (locs : List Loc) (ls : Array Slot) (x210 : Int32), wp_Q_doHigh_j5 M207 x210 Q → Wd D (ceC ad cA) A s H locs M207 → lv_has ls 4 [(0, .ref (ad 5)), (1, .int a1), (2, .int a2), (3, .int x122)] → W p l e rm_Q_doHigh s m args below meth c H locs 0 0 QQ (F0 m 157 ls [.int x210, .ref (ad 5)]) := by
              intro H locs ls x210 hk hw hl
              unfold wp_Q_doHigh_j5 at hk
              obtain ⟨hz, hk⟩ := hk
              refine p_Q_ime hC hw hz m_32 d_Q_doHigh_157 (fun H locs M211 e_M211 hw => ?_)
              have hk := hk M211 e_M211
              refine lv_goto (tgt := 306) hx hb d_Q_doHigh_160 (by decide) ?_
              exact hj2 _ _ _ _ hk hw (lv_sub hl [0, 1, 2, 3] rfl)
            have hj6 : ∀ (H : Heap) (locs : List Loc) (ls : Array Slot), wp_Q_doHigh_j6 M207 Q → Wd D (ceC ad cA) A s H locs M207 → lv_has ls 4 [(0, .ref (ad 5)), (1, .int a1), (2, .int a2), (3, .int x122)] → W p l e rm_Q_doHigh s m args below meth c H locs 0 0 QQ (F0 m 152 ls [.ref (ad 5)]) := by
              intro H locs ls  hk hw hl
              unfold wp_Q_doHigh_j6 at hk
              refine lv_iconst (v := 1) hx hb d_Q_doHigh_152 (by decide) ?_
              refine lv_goto (tgt := 157) hx hb d_Q_doHigh_153 (by decide) ?_
              exact hj5 _ _ _ _ hk hw (lv_sub hl [0, 1, 2, 3] rfl)
            refine lv_if_ne (tgt := 152) hx hb d_Q_doHigh_144 (by decide) (fun hc => ?_) (fun hc => ?_)
            · have hk := hk.1 hc
              exact hj6 _ _ _  hk hw (lv_sub hl [1, 2, 3, 0] rfl)
            · have hk := hk.2 hc
              refine lv_iload_n hx hb d_Q_doHigh_147 rfl (lv_at hl 2 rfl) ?_
              refine lv_iconst (v := 3) hx hb d_Q_doHigh_148 (by decide) ?_
              refine lv_icmp_ne (tgt := 156) hx hb d_Q_doHigh_149 (by decide) (fun hc => ?_) (fun hc => ?_)
              · have hk := hk.1 hc
                refine lv_iconst (v := 0) hx hb d_Q_doHigh_156 (by decide) ?_
                exact hj5 _ _ _ _ hk hw (lv_sub hl [1, 2, 3, 0] rfl)
              · have hk := hk.2 hc
                exact hj6 _ _ _  hk hw (lv_sub hl [1, 2, 3, 0] rfl)
        · have hk := hk.2 hc
          refine lv_aload_n hx hb d_Q_doHigh_111 rfl (lv_at hl 1 rfl) ?_
          refine lv_iload_n hx hb d_Q_doHigh_112 rfl (lv_at hl 2 rfl) ?_
          refine lv_iconst (v := 1) hx hb d_Q_doHigh_113 (by decide) ?_
          refine lv_ishr hx hb d_Q_doHigh_114 ?_
          refine lv_aload_n hx hb d_Q_doHigh_115 rfl (lv_at hl 1 rfl) ?_
          refine cl_Vi (j := 5) (As := []) hC hw (ct_Q_pop _  _ hk) m_113 mw_Q_pop rfl ⟨rfl, rfl, Nat.le_of_ble_eq_true rfl, Nat.le_of_ble_eq_true rfl⟩ rfl rfl rfl hl.1 rfl (Nat.le_of_ble_eq_true rfl) d_Q_doHigh_116 (fun H locs x212 M213 hk hw => ?_)
          refine cl_Vv (j := 5) (As := [.int (a1 >>> ((1 : Int32) &&& (31 : Int32))), .int x212]) hC hw (ct_Q_setStackPair _ _ _ _ hk) m_117 mw_Q_setStackPair rfl ⟨rfl, rfl, Nat.le_of_ble_eq_true rfl, Nat.le_of_ble_eq_true rfl⟩ rfl rfl rfl hl.1 rfl (Nat.le_of_ble_eq_true rfl) d_Q_doHigh_119 (fun H locs M214 hk hw => ?_)
          refine lv_goto (tgt := 306) hx hb d_Q_doHigh_122 (by decide) ?_
          exact hj2 _ _ _ _ hk hw (lv_sub hl [1, 2, 3, 0] rfl)
      · have hk := hk.2 hs5
        by_cases hs6 : (a2 = (2 : Int32))
        · have hk := hk.1 hs6
          refine lv_tableIn (x := a2) (off := 189) (tgt := 202) hx hb d_Q_doHigh_13 (by rw [hs6]; decide) (by rw [hs6]; decide) (by rw [hs6]; decide) (by decide) ?_
          refine lv_iload_n hx hb d_Q_doHigh_202 rfl (lv_at hl 2 rfl) ?_
          refine lv_iconst (v := 4) hx hb d_Q_doHigh_203 (by decide) ?_
          refine lv_icmp_ge (tgt := 223) hx hb d_Q_doHigh_204 (by decide) (fun hc => ?_) (fun hc => ?_)
          · have hk := hk.1 hc
            refine lv_aload_n hx hb d_Q_doHigh_223 rfl (lv_at hl 1 rfl) ?_
            refine lv_iload_n hx hb d_Q_doHigh_224 rfl (lv_at hl 0 rfl) ?_
            have hj7 : ∀ (H : Heap) (locs : List Loc) (ls : Array Slot) (x223 : Int32) (M224 : Mem), wp_Q_doHigh_j7 a1 x223 M224 Q → Wd D (ceC ad cA) A s H locs M224 → lv_has ls 4 [(0, .ref (ad 5)), (1, .int a1), (2, .int a2), (3, .int x122)] → W p l e rm_Q_doHigh s m args below meth c H locs 0 0 QQ (F0 m 244 ls [.int x223, .ref (ad 5)]) := by
              intro H locs ls x223 M224 hk hw hl
              unfold wp_Q_doHigh_j7 at hk
              refine lv_iload_n hx hb d_Q_doHigh_244 rfl (lv_at hl 1 rfl) ?_
              refine lv_bipush (v := 6) hx hb d_Q_doHigh_245 (by decide) ?_
              have hj8 : ∀ (H : Heap) (locs : List Loc) (ls : Array Slot) (x227 : Int32), wp_Q_doHigh_j8 x223 M224 x227 Q → Wd D (ceC ad cA) A s H locs M224 → lv_has ls 4 [(0, .ref (ad 5)), (1, .int a1), (2, .int a2), (3, .int x122)] → W p l e rm_Q_doHigh s m args below meth c H locs 0 0 QQ (F0 m 255 ls [.int x227, .int x223, .ref (ad 5)]) := by
                intro H locs ls x227 hk hw hl
                unfold wp_Q_doHigh_j8 at hk
                refine cl_Vv (j := 5) (As := [.int x223, .int x227]) hC hw (ct_Q_copyA _ _ _ _ hk) m_104 mw_Q_copyA rfl ⟨rfl, rfl, Nat.le_of_ble_eq_true rfl, Nat.le_of_ble_eq_true rfl⟩ rfl rfl rfl hl.1 rfl (Nat.le_of_ble_eq_true rfl) d_Q_doHigh_255 (fun H locs M228 hk hw => ?_)
                refine lv_goto (tgt := 306) hx hb d_Q_doHigh_258 (by decide) ?_
                exact hj2 _ _ _ _ hk hw (lv_sub hl [0, 1, 2, 3] rfl)
              refine lv_icmp_lt (tgt := 254) hx hb d_Q_doHigh_247 (by decide) (fun hc => ?_) (fun hc => ?_)
              · have hk := hk.1 hc
                refine lv_iconst (v := 0) hx hb d_Q_doHigh_254 (by decide) ?_
                exact hj8 _ _ _ _ hk hw (lv_sub hl [0, 1, 2, 3] rfl)
              · have hk := hk.2 hc
                refine lv_iconst (v := 1) hx hb d_Q_doHigh_250 (by decide) ?_
                refine lv_goto (tgt := 255) hx hb d_Q_doHigh_251 (by decide) ?_
                exact hj8 _ _ _ _ hk hw (lv_sub hl [0, 1, 2, 3] rfl)
            refine lv_if_eq (tgt := 235) hx hb d_Q_doHigh_225 (by decide) (fun hc => ?_) (fun hc => ?_)
            · have hk := hk.1 hc
              refine lv_ldc (v := (65280 : Int32)) hx hb hC.1.2.2.2.1 (hC.1.2.2.2.2 _ m_114) d_Q_doHigh_235 ?_
              refine lv_aload_n hx hb d_Q_doHigh_237 rfl (lv_at hl 1 rfl) ?_
              refine g_Q_r hC hw m_26 d_Q_doHigh_238 ?_
              refine lv_iconst (v := 1) hx hb d_Q_doHigh_241 (by decide) ?_
              refine ld_17 (k := 1) hC hw (vin_lit rfl) (by decide) d_Q_doHigh_242 ?_
              refine lv_ior hx hb d_Q_doHigh_243 ?_
              exact hj7 _ _ _ _ _ hk hw (lv_sub hl [1, 2, 3, 0] rfl)
            · have hk := hk.2 hc
              refine lv_aload_n hx hb d_Q_doHigh_228 rfl (lv_at hl 1 rfl) ?_
              refine cl_Vi (j := 5) (As := []) hC hw (ct_Q_fetchWord _  _ hk) m_97 mw_Q_fetchWord rfl ⟨rfl, rfl, Nat.le_of_ble_eq_true rfl, Nat.le_of_ble_eq_true rfl⟩ rfl rfl rfl hl.1 rfl (Nat.le_of_ble_eq_true rfl) d_Q_doHigh_229 (fun H locs x229 M230 hk hw => ?_)
              refine lv_goto (tgt := 244) hx hb d_Q_doHigh_232 (by decide) ?_
              exact hj7 _ _ _ _ _ hk hw (lv_sub hl [1, 2, 3, 0] rfl)
          · have hk := hk.2 hc
            refine lv_aload_n hx hb d_Q_doHigh_207 rfl (lv_at hl 1 rfl) ?_
            refine lv_aload_n hx hb d_Q_doHigh_208 rfl (lv_at hl 1 rfl) ?_
            refine lv_iload_n hx hb d_Q_doHigh_209 rfl (lv_at hl 2 rfl) ?_
            refine cl_Vip (j := 5) (As := [.int a1]) hC hw (ct_Q_holds _ _ _ hk) m_94 mw_Q_holds rfl ⟨rfl, rfl, Nat.le_of_ble_eq_true rfl, Nat.le_of_ble_eq_true rfl⟩ rfl rfl rfl hl.1 rfl (Nat.le_of_ble_eq_true rfl) d_Q_doHigh_210 (fun H locs x231 hk hw => ?_)
            refine lv_aload_n hx hb d_Q_doHigh_213 rfl (lv_at hl 1 rfl) ?_
            refine cl_Vi (j := 5) (As := []) hC hw (ct_Q_fetchWord _  _ hk) m_97 mw_Q_fetchWord rfl ⟨rfl, rfl, Nat.le_of_ble_eq_true rfl, Nat.le_of_ble_eq_true rfl⟩ rfl rfl rfl hl.1 rfl (Nat.le_of_ble_eq_true rfl) d_Q_doHigh_214 (fun H locs x232 M233 hk hw => ?_)
            refine cl_Vv (j := 5) (As := [.int x231, .int x232]) hC hw (ct_Q_jump _ _ _ _ hk) m_95 mw_Q_jump rfl ⟨rfl, rfl, Nat.le_of_ble_eq_true rfl, Nat.le_of_ble_eq_true rfl⟩ rfl rfl rfl hl.1 rfl (Nat.le_of_ble_eq_true rfl) d_Q_doHigh_217 (fun H locs M234 hk hw => ?_)
            refine lv_goto (tgt := 306) hx hb d_Q_doHigh_220 (by decide) ?_
            exact hj2 _ _ _ _ hk hw (lv_sub hl [1, 2, 3, 0] rfl)
        · have hk := hk.2 hs6
          refine lv_tableOut (x := a2) (tgt := 261) hx hb d_Q_doHigh_13 (by have hz := (⟨lv_neT hs4 (show ((0 : Int32)).toInt = 0 by decide), lv_neT hs5 (show ((1 : Int32)).toInt = 1 by decide), lv_neT hs6 (show ((2 : Int32)).toInt = 2 by decide)⟩ : ¬ (a2).toInt = 0 ∧ ¬ (a2).toInt = 1 ∧ ¬ (a2).toInt = 2); omega) (by decide) ?_
          refine lv_iload_n hx hb d_Q_doHigh_261 rfl (lv_at hl 2 rfl) ?_
          refine lv_if_ne (tgt := 277) hx hb d_Q_doHigh_262 (by decide) (fun hc => ?_) (fun hc => ?_)
          · have hk := hk.1 hc
            refine lv_iload_n hx hb d_Q_doHigh_277 rfl (lv_at hl 2 rfl) ?_
            refine lv_bipush (v := 6) hx hb d_Q_doHigh_278 (by decide) ?_
            refine lv_icmp_lt (tgt := 301) hx hb d_Q_doHigh_280 (by decide) (fun hc => ?_) (fun hc => ?_)
            · have hk := hk.1 hc
              refine lv_aload_n hx hb d_Q_doHigh_301 rfl (lv_at hl 1 rfl) ?_
              refine lv_iconst (v := 1) hx hb d_Q_doHigh_302 (by decide) ?_
              refine p_Q_locked hC hw (Or.inr rfl) m_34 d_Q_doHigh_303 (fun H locs M235 e_M235 hw => ?_)
              have hk := hk M235 e_M235
              exact hj2 _ _ _ _ hk hw (lv_sub hl [1, 2, 3, 0] rfl)
            · have hk := hk.2 hc
              refine lv_aload_n hx hb d_Q_doHigh_283 rfl (lv_at hl 1 rfl) ?_
              refine lv_iload_n hx hb d_Q_doHigh_284 rfl (lv_at hl 2 rfl) ?_
              refine lv_bipush (v := 7) hx hb d_Q_doHigh_285 (by decide) ?_
              have hj9 : ∀ (H : Heap) (locs : List Loc) (ls : Array Slot) (x238 : Int32), wp_Q_doHigh_j9 M0 x238 Q → Wd D (ceC ad cA) A s H locs M0 → lv_has ls 4 [(0, .ref (ad 5)), (1, .int a1), (2, .int a2), (3, .int x122)] → W p l e rm_Q_doHigh s m args below meth c H locs 0 0 QQ (F0 m 295 ls [.int x238, .ref (ad 5)]) := by
                intro H locs ls x238 hk hw hl
                unfold wp_Q_doHigh_j9 at hk
                refine cl_Vv (j := 5) (As := [.int x238]) hC hw (ct_Q_switchInterrupts _ _ _ hk) m_118 mw_Q_switchInterrupts rfl ⟨rfl, rfl, Nat.le_of_ble_eq_true rfl, Nat.le_of_ble_eq_true rfl⟩ rfl rfl rfl hl.1 rfl (Nat.le_of_ble_eq_true rfl) d_Q_doHigh_295 (fun H locs M239 hk hw => ?_)
                refine lv_goto (tgt := 306) hx hb d_Q_doHigh_298 (by decide) ?_
                exact hj2 _ _ _ _ hk hw (lv_sub hl [0, 1, 2, 3] rfl)
              refine lv_icmp_ne (tgt := 294) hx hb d_Q_doHigh_287 (by decide) (fun hc => ?_) (fun hc => ?_)
              · have hk := hk.1 hc
                refine lv_iconst (v := 0) hx hb d_Q_doHigh_294 (by decide) ?_
                exact hj9 _ _ _ _ hk hw (lv_sub hl [1, 2, 3, 0] rfl)
              · have hk := hk.2 hc
                refine lv_iconst (v := 1) hx hb d_Q_doHigh_290 (by decide) ?_
                refine lv_goto (tgt := 295) hx hb d_Q_doHigh_291 (by decide) ?_
                exact hj9 _ _ _ _ hk hw (lv_sub hl [1, 2, 3, 0] rfl)
          · have hk := hk.2 hc
            refine lv_aload_n hx hb d_Q_doHigh_265 rfl (lv_at hl 1 rfl) ?_
            refine lv_iconst (v := 1) hx hb d_Q_doHigh_266 (by decide) ?_
            refine lv_aload_n hx hb d_Q_doHigh_267 rfl (lv_at hl 1 rfl) ?_
            refine cl_Vi (j := 5) (As := []) hC hw (ct_Q_fetchWord _  _ hk) m_97 mw_Q_fetchWord rfl ⟨rfl, rfl, Nat.le_of_ble_eq_true rfl, Nat.le_of_ble_eq_true rfl⟩ rfl rfl rfl hl.1 rfl (Nat.le_of_ble_eq_true rfl) d_Q_doHigh_268 (fun H locs x240 M241 hk hw => ?_)
            refine cl_Vv (j := 5) (As := [.int (1 : Int32), .int x240]) hC hw (ct_Q_jump _ _ _ _ hk) m_95 mw_Q_jump rfl ⟨rfl, rfl, Nat.le_of_ble_eq_true rfl, Nat.le_of_ble_eq_true rfl⟩ rfl rfl rfl hl.1 rfl (Nat.le_of_ble_eq_true rfl) d_Q_doHigh_271 (fun H locs M242 hk hw => ?_)
            refine lv_goto (tgt := 306) hx hb d_Q_doHigh_274 (by decide) ?_
            exact hj2 _ _ _ _ hk hw (lv_sub hl [1, 2, 3, 0] rfl)
  refine lv_if_eq (tgt := 10) hx hb d_Q_doHigh_3 (by decide) (fun hc => ?_) (fun hc => ?_)
  · have hk := hk.1 hc
    refine lv_iconst (v := 0) hx hb d_Q_doHigh_10 (by decide) ?_
    exact hj1 _ _ _ _ hk hw (lv_sub hl [0, 1, 2] rfl)
  · have hk := hk.2 hc
    refine lv_iconst (v := 1) hx hb d_Q_doHigh_6 (by decide) ?_
    refine lv_goto (tgt := 11) hx hb d_Q_doHigh_7 (by decide) ?_
    exact hj1 _ _ _ _ hk hw (lv_sub hl [0, 1, 2] rfl)
set_option maxHeartbeats 4000000 in
set_option maxRecDepth 100000 in
theorem ct_Q_stackPair {l : Launch} {D : va_G} {cA : ClassId} {ad tb : Nat → Nat} (M0 : Mem) (a1 : Int32) (Q : Int32 → Prop) (hk : wp_Q_stackPair M0 a1 Q) : Ct l y_Q_stackPair ws_Q_stackPair rm_Q_stackPair D (ceC ad cA) cA tb [.ref (ad 5), .int a1] M0 (QIp M0 Q) := by
  refine Ct.of (own := "TileConsole$Processor") (cc := b_Q_stackPair) (maxL := 2) (ret := (some .int)) ceC_fix (by decide) rfl rfl (Nat.le_of_ble_eq_true rfl) ?_
  intro p e s m args below meth c A QQ ls H locs hQQ hC hr hlk hw hl
  have hx := hC.1.1
  have hb := hC.1.2.1
  unfold wp_Q_stackPair at hk
  have hl : lv_has ls 2 [(0, .ref (ad 5)), (1, .int a1)] := hl
  refine lv_iload_n hx hb d_Q_stackPair_0 rfl (lv_at hl 1 rfl) ?_
  refine lv_iconst (v := 3) hx hb d_Q_stackPair_1 (by decide) ?_
  have hj1 : ∀ (H : Heap) (locs : List Loc) (ls : Array Slot) (x3 : Int32), wp_Q_stackPair_j1 x3 Q → Wd D (ceC ad cA) A s H locs M0 → lv_has ls 2 [(0, .ref (ad 5)), (1, .int a1)] → W p l e rm_Q_stackPair s m args below meth c H locs 0 0 QQ (F0 m 31 ls [.int x3]) := by
    intro H locs ls x3 hk hw hl
    unfold wp_Q_stackPair_j1 at hk
    exact rt_i hQQ hx hb hr hlk hw ⟨rfl, _, rfl, hk⟩ d_Q_stackPair_31
  refine lv_icmp_ne (tgt := 26) hx hb d_Q_stackPair_2 (by decide) (fun hc => ?_) (fun hc => ?_)
  · have hk := hk.1 hc
    refine lv_aload_n hx hb d_Q_stackPair_26 rfl (lv_at hl 0 rfl) ?_
    refine lv_iload_n hx hb d_Q_stackPair_27 rfl (lv_at hl 1 rfl) ?_
    refine cl_Vip (j := 5) (As := [.int a1]) hC hw (ct_Q_pair _ _ _ hk) m_90 mw_Q_pair rfl ⟨rfl, rfl, Nat.le_of_ble_eq_true rfl, Nat.le_of_ble_eq_true rfl⟩ rfl rfl rfl hl.1 rfl (Nat.le_of_ble_eq_true rfl) d_Q_stackPair_28 (fun H locs x4 hk hw => ?_)
    exact hj1 _ _ _ _ hk hw (lv_sub hl [0, 1] rfl)
  · have hk := hk.2 hc
    refine lv_aload_n hx hb d_Q_stackPair_5 rfl (lv_at hl 0 rfl) ?_
    refine g_Q_r hC hw m_26 d_Q_stackPair_6 ?_
    refine lv_bipush (v := 7) hx hb d_Q_stackPair_9 (by decide) ?_
    refine ld_17 (k := 7) hC hw (vin_lit rfl) (by decide) d_Q_stackPair_11 ?_
    refine lv_bipush (v := 8) hx hb d_Q_stackPair_12 (by decide) ?_
    refine lv_ishl hx hb d_Q_stackPair_14 ?_
    refine lv_aload_n hx hb d_Q_stackPair_15 rfl (lv_at hl 0 rfl) ?_
    refine g_Q_r hC hw m_26 d_Q_stackPair_16 ?_
    refine lv_bipush (v := 6) hx hb d_Q_stackPair_19 (by decide) ?_
    refine ld_17 (k := 6) hC hw (vin_lit rfl) (by decide) d_Q_stackPair_21 ?_
    refine lv_ior hx hb d_Q_stackPair_22 ?_
    refine lv_goto (tgt := 31) hx hb d_Q_stackPair_23 (by decide) ?_
    exact hj1 _ _ _ _ hk hw (lv_sub hl [0, 1] rfl)
set_option maxHeartbeats 4000000 in
set_option maxRecDepth 100000 in
theorem ct_Q_doHighest {l : Launch} {D : va_G} {cA : ClassId} {ad tb : Nat → Nat} (M0 : Mem) (a1 : Int32) (a2 : Int32) (Q : Mem → Prop) (hk : wp_Q_doHighest M0 a1 a2 Q) : Ct l y_Q_doHighest ws_Q_doHighest rm_Q_doHighest D (ceC ad cA) cA tb [.ref (ad 5), .int a1, .int a2] M0 (QV Q) := by
  refine Ct.of (own := "TileConsole$Processor") (cc := b_Q_doHighest) (maxL := 4) (ret := none) ceC_fix (by decide) rfl rfl (Nat.le_of_ble_eq_true rfl) ?_
  intro p e s m args below meth c A QQ ls H locs hQQ hC hr hlk hw hl
  have hx := hC.1.1
  have hb := hC.1.2.1
  unfold wp_Q_doHighest at hk
  have hl : lv_has ls 4 [(0, .ref (ad 5)), (1, .int a1), (2, .int a2)] := hl
  refine lv_iload_n hx hb d_Q_doHighest_0 rfl (lv_at hl 2 rfl) ?_
  refine lv_bipush (v := 6) hx hb d_Q_doHighest_1 (by decide) ?_
  have hj1 : ∀ (H : Heap) (locs : List Loc) (ls : Array Slot) (M59 : Mem), wp_Q_doHighest_j1 M59 Q → Wd D (ceC ad cA) A s H locs M59 → lv_has ls 4 [(0, .ref (ad 5)), (1, .int a1), (2, .int a2)] → W p l e rm_Q_doHighest s m args below meth c H locs 0 0 QQ (F0 m 127 ls []) := by
    intro H locs ls M59 hk hw hl
    unfold wp_Q_doHighest_j1 at hk
    exact rt_v hQQ hx hb hr hlk hw ⟨rfl, hk⟩ d_Q_doHighest_127
  refine lv_icmp_ne (tgt := 18) hx hb d_Q_doHighest_3 (by decide) (fun hc => ?_) (fun hc => ?_)
  · have hk := hk.1 hc
    refine lv_iload_n hx hb d_Q_doHighest_18 rfl (lv_at hl 2 rfl) ?_
    refine lv_bipush (v := 7) hx hb d_Q_doHighest_19 (by decide) ?_
    refine lv_icmp_ne (tgt := 43) hx hb d_Q_doHighest_21 (by decide) (fun hc => ?_) (fun hc => ?_)
    · have hk := hk.1 hc
      refine lv_iload_n hx hb d_Q_doHighest_43 rfl (lv_at hl 2 rfl) ?_
      refine lv_iconst (v := 5) hx hb d_Q_doHighest_44 (by decide) ?_
      have hj2 : ∀ (H : Heap) (locs : List Loc) (ls : Array Slot), wp_Q_doHighest_j2 M0 a1 a2 Q → Wd D (ceC ad cA) A s H locs M0 → lv_has ls 4 [(0, .ref (ad 5)), (1, .int a1), (2, .int a2)] → W p l e rm_Q_doHighest s m args below meth c H locs 0 0 QQ (F0 m 68 ls []) := by
        intro H locs ls  hk hw hl
        unfold wp_Q_doHighest_j2 at hk
        refine lv_iload_n hx hb d_Q_doHighest_68 rfl (lv_at hl 2 rfl) ?_
        refine lv_iconst (v := 4) hx hb d_Q_doHighest_69 (by decide) ?_
        have hj3 : ∀ (H : Heap) (locs : List Loc) (ls : Array Slot), wp_Q_doHighest_j3 M0 a1 a2 Q → Wd D (ceC ad cA) A s H locs M0 → lv_has ls 4 [(0, .ref (ad 5)), (1, .int a1), (2, .int a2)] → W p l e rm_Q_doHighest s m args below meth c H locs 0 0 QQ (F0 m 88 ls []) := by
          intro H locs ls  hk hw hl
          unfold wp_Q_doHighest_j3 at hk
          refine lv_aload_n hx hb d_Q_doHighest_88 rfl (lv_at hl 0 rfl) ?_
          refine cl_Vi (j := 5) (As := []) hC hw (ct_Q_fetchWord _  _ hk) m_97 mw_Q_fetchWord rfl ⟨rfl, rfl, Nat.le_of_ble_eq_true rfl, Nat.le_of_ble_eq_true rfl⟩ rfl rfl rfl hl.1 rfl (Nat.le_of_ble_eq_true rfl) d_Q_doHighest_89 (fun H locs x98 M99 hk hw => ?_)
          refine lv_istore_n (lv' := [(3, .int x98), (0, .ref (ad 5)), (1, .int a1), (2, .int a2)]) hx hb d_Q_doHighest_92 rfl hl (by decide) rfl (fun ls hl => ?_)
          refine lv_iload_n hx hb d_Q_doHighest_93 rfl (lv_at hl 3 rfl) ?_
          refine lv_iconst (v := 5) hx hb d_Q_doHighest_94 (by decide) ?_
          have hj4 : ∀ (H : Heap) (locs : List Loc) (ls : Array Slot) (M104 : Mem), wp_Q_doHighest_j4 M104 Q → Wd D (ceC ad cA) A s H locs M104 → lv_has ls 4 [(0, .ref (ad 5)), (1, .int a1), (2, .int a2), (3, .int x98)] → W p l e rm_Q_doHighest s m args below meth c H locs 0 0 QQ (F0 m 119 ls []) := by
            intro H locs ls M104 hk hw hl
            unfold wp_Q_doHighest_j4 at hk
            refine lv_goto (tgt := 127) hx hb d_Q_doHighest_119 (by decide) ?_
            exact hj1 _ _ _ _ hk hw (lv_sub hl [0, 1, 2] rfl)
          have hj5 : ∀ (H : Heap) (locs : List Loc) (ls : Array Slot), wp_Q_doHighest_j5 x98 M99 Q → Wd D (ceC ad cA) A s H locs M99 → lv_has ls 4 [(0, .ref (ad 5)), (1, .int a1), (2, .int a2), (3, .int x98)] → W p l e rm_Q_doHighest s m args below meth c H locs 0 0 QQ (F0 m 106 ls []) := by
            intro H locs ls  hk hw hl
            unfold wp_Q_doHighest_j5 at hk
            refine lv_aload_n hx hb d_Q_doHighest_106 rfl (lv_at hl 0 rfl) ?_
            refine lv_aload_n hx hb d_Q_doHighest_107 rfl (lv_at hl 0 rfl) ?_
            refine g_Q_pc hC hw m_31 d_Q_doHighest_108 ?_
            refine cl_Vv (j := 5) (As := [.int (M99 5 8)]) hC hw (ct_Q_push _ _ _ hk) m_79 mw_Q_push rfl ⟨rfl, rfl, Nat.le_of_ble_eq_true rfl, Nat.le_of_ble_eq_true rfl⟩ rfl rfl rfl hl.1 rfl (Nat.le_of_ble_eq_true rfl) d_Q_doHighest_111 (fun H locs M105 hk hw => ?_)
            refine lv_aload_n hx hb d_Q_doHighest_114 rfl (lv_at hl 0 rfl) ?_
            refine lv_iload_n hx hb d_Q_doHighest_115 rfl (lv_at hl 3 rfl) ?_
            refine p_Q_pc hC hw m_31 d_Q_doHighest_116 (fun H locs M106 e_M106 hw => ?_)
            have hk := hk M106 e_M106
            exact hj4 _ _ _ _ hk hw (lv_sub hl [0, 1, 2, 3] rfl)
          refine lv_icmp_eq (tgt := 106) hx hb d_Q_doHighest_95 (by decide) (fun hc => ?_) (fun hc => ?_)
          · have hk := hk.1 hc
            exact hj5 _ _ _  hk hw (lv_sub hl [1, 2, 3, 0] rfl)
          · have hk := hk.2 hc
            refine lv_aload_n hx hb d_Q_doHighest_98 rfl (lv_at hl 1 rfl) ?_
            refine lv_iload_n hx hb d_Q_doHighest_99 rfl (lv_at hl 2 rfl) ?_
            refine cl_Vip (j := 5) (As := [.int a1]) hC hw (ct_Q_holds _ _ _ hk) m_94 mw_Q_holds rfl ⟨rfl, rfl, Nat.le_of_ble_eq_true rfl, Nat.le_of_ble_eq_true rfl⟩ rfl rfl rfl hl.1 rfl (Nat.le_of_ble_eq_true rfl) d_Q_doHighest_100 (fun H locs x107 hk hw => ?_)
            refine lv_if_eq (tgt := 119) hx hb d_Q_doHighest_103 (by decide) (fun hc => ?_) (fun hc => ?_)
            · have hk := hk.1 hc
              exact hj4 _ _ _ _ hk hw (lv_sub hl [1, 2, 3, 0] rfl)
            · have hk := hk.2 hc
              exact hj5 _ _ _  hk hw (lv_sub hl [1, 2, 3, 0] rfl)
        have hj6 : ∀ (H : Heap) (locs : List Loc) (ls : Array Slot), wp_Q_doHighest_j6 M0 a1 a2 Q → Wd D (ceC ad cA) A s H locs M0 → lv_has ls 4 [(0, .ref (ad 5)), (1, .int a1), (2, .int a2)] → W p l e rm_Q_doHighest s m args below meth c H locs 0 0 QQ (F0 m 78 ls []) := by
          intro H locs ls  hk hw hl
          unfold wp_Q_doHighest_j6 at hk
          refine lv_iload_n hx hb d_Q_doHighest_78 rfl (lv_at hl 2 rfl) ?_
          refine lv_iconst (v := 5) hx hb d_Q_doHighest_79 (by decide) ?_
          have hj7 : ∀ (H : Heap) (locs : List Loc) (ls : Array Slot), wp_Q_doHighest_j7 M0 Q → Wd D (ceC ad cA) A s H locs M0 → lv_has ls 4 [(0, .ref (ad 5)), (1, .int a1), (2, .int a2)] → W p l e rm_Q_doHighest s m args below meth c H locs 0 0 QQ (F0 m 122 ls []) := by
            intro H locs ls  hk hw hl
            unfold wp_Q_doHighest_j7 at hk
            refine lv_aload_n hx hb d_Q_doHighest_122 rfl (lv_at hl 0 rfl) ?_
            refine lv_iconst (v := 1) hx hb d_Q_doHighest_123 (by decide) ?_
            refine p_Q_locked hC hw (Or.inr rfl) m_34 d_Q_doHighest_124 (fun H locs M109 e_M109 hw => ?_)
            have hk := hk M109 e_M109
            exact hj1 _ _ _ _ hk hw (lv_sub hl [0, 1, 2] rfl)
          refine lv_icmp_ne (tgt := 122) hx hb d_Q_doHighest_80 (by decide) (fun hc => ?_) (fun hc => ?_)
          · have hk := hk.1 hc
            exact hj7 _ _ _  hk hw (lv_sub hl [0, 1, 2] rfl)
          · have hk := hk.2 hc
            refine lv_iload_n hx hb d_Q_doHighest_83 rfl (lv_at hl 1 rfl) ?_
            refine lv_iconst (v := 1) hx hb d_Q_doHighest_84 (by decide) ?_
            refine lv_icmp_ne (tgt := 122) hx hb d_Q_doHighest_85 (by decide) (fun hc => ?_) (fun hc => ?_)
            · have hk := hk.1 hc
              exact hj7 _ _ _  hk hw (lv_sub hl [0, 1, 2] rfl)
            · have hk := hk.2 hc
              exact hj3 _ _ _  hk hw (lv_sub hl [0, 1, 2] rfl)
        refine lv_icmp_ne (tgt := 78) hx hb d_Q_doHighest_70 (by decide) (fun hc => ?_) (fun hc => ?_)
        · have hk := hk.1 hc
          exact hj6 _ _ _  hk hw (lv_sub hl [0, 1, 2] rfl)
        · have hk := hk.2 hc
          refine lv_iload_n hx hb d_Q_doHighest_73 rfl (lv_at hl 1 rfl) ?_
          refine lv_iconst (v := 4) hx hb d_Q_doHighest_74 (by decide) ?_
          refine lv_icmp_lt (tgt := 88) hx hb d_Q_doHighest_75 (by decide) (fun hc => ?_) (fun hc => ?_)
          · have hk := hk.1 hc
            exact hj3 _ _ _  hk hw (lv_sub hl [0, 1, 2] rfl)
          · have hk := hk.2 hc
            exact hj6 _ _ _  hk hw (lv_sub hl [0, 1, 2] rfl)
      refine lv_icmp_ne (tgt := 68) hx hb d_Q_doHighest_45 (by decide) (fun hc => ?_) (fun hc => ?_)
      · have hk := hk.1 hc
        exact hj2 _ _ _  hk hw (lv_sub hl [0, 1, 2] rfl)
      · have hk := hk.2 hc
        refine lv_iload_n hx hb d_Q_doHighest_48 rfl (lv_at hl 1 rfl) ?_
        refine lv_iconst (v := 1) hx hb d_Q_doHighest_49 (by decide) ?_
        refine lv_iand hx hb d_Q_doHighest_50 ?_
        refine lv_if_ne (tgt := 68) hx hb d_Q_doHighest_51 (by decide) (fun hc => ?_) (fun hc => ?_)
        · have hk := hk.1 hc
          exact hj2 _ _ _  hk hw (lv_sub hl [0, 1, 2] rfl)
        · have hk := hk.2 hc
          refine lv_aload_n hx hb d_Q_doHighest_54 rfl (lv_at hl 0 rfl) ?_
          refine lv_aload_n hx hb d_Q_doHighest_55 rfl (lv_at hl 0 rfl) ?_
          refine lv_iload_n hx hb d_Q_doHighest_56 rfl (lv_at hl 1 rfl) ?_
          refine lv_iconst (v := 1) hx hb d_Q_doHighest_57 (by decide) ?_
          refine lv_ishr hx hb d_Q_doHighest_58 ?_
          refine cl_Vip (j := 5) (As := [.int (a1 >>> ((1 : Int32) &&& (31 : Int32)))]) hC hw (ct_Q_stackPair _ _ _ hk) m_119 mw_Q_stackPair rfl ⟨rfl, rfl, Nat.le_of_ble_eq_true rfl, Nat.le_of_ble_eq_true rfl⟩ rfl rfl rfl hl.1 rfl (Nat.le_of_ble_eq_true rfl) d_Q_doHighest_59 (fun H locs x110 hk hw => ?_)
          refine cl_Vv (j := 5) (As := [.int x110]) hC hw (ct_Q_push _ _ _ hk) m_79 mw_Q_push rfl ⟨rfl, rfl, Nat.le_of_ble_eq_true rfl, Nat.le_of_ble_eq_true rfl⟩ rfl rfl rfl hl.1 rfl (Nat.le_of_ble_eq_true rfl) d_Q_doHighest_62 (fun H locs M111 hk hw => ?_)
          refine lv_goto (tgt := 127) hx hb d_Q_doHighest_65 (by decide) ?_
          exact hj1 _ _ _ _ hk hw (lv_sub hl [0, 1, 2] rfl)
    · have hk := hk.2 hc
      refine lv_aload_n hx hb d_Q_doHighest_24 rfl (lv_at hl 0 rfl) ?_
      refine lv_aload_n hx hb d_Q_doHighest_25 rfl (lv_at hl 0 rfl) ?_
      refine g_Q_pc hC hw m_31 d_Q_doHighest_26 ?_
      refine cl_Vv (j := 5) (As := [.int (M0 5 8)]) hC hw (ct_Q_push _ _ _ hk) m_79 mw_Q_push rfl ⟨rfl, rfl, Nat.le_of_ble_eq_true rfl, Nat.le_of_ble_eq_true rfl⟩ rfl rfl rfl hl.1 rfl (Nat.le_of_ble_eq_true rfl) d_Q_doHighest_29 (fun H locs M112 hk hw => ?_)
      refine lv_aload_n hx hb d_Q_doHighest_32 rfl (lv_at hl 0 rfl) ?_
      refine lv_bipush (v := 8) hx hb d_Q_doHighest_33 (by decide) ?_
      refine lv_iload_n hx hb d_Q_doHighest_35 rfl (lv_at hl 1 rfl) ?_
      refine lv_imul hx hb d_Q_doHighest_36 ?_
      refine p_Q_pc hC hw m_31 d_Q_doHighest_37 (fun H locs M113 e_M113 hw => ?_)
      have hk := hk M113 e_M113
      refine lv_goto (tgt := 127) hx hb d_Q_doHighest_40 (by decide) ?_
      exact hj1 _ _ _ _ hk hw (lv_sub hl [0, 1, 2] rfl)
  · have hk := hk.2 hc
    refine lv_aload_n hx hb d_Q_doHighest_6 rfl (lv_at hl 0 rfl) ?_
    refine lv_iload_n hx hb d_Q_doHighest_7 rfl (lv_at hl 1 rfl) ?_
    refine lv_aload_n hx hb d_Q_doHighest_8 rfl (lv_at hl 0 rfl) ?_
    refine cl_Vi (j := 5) (As := []) hC hw (ct_Q_fetch _  _ hk) m_89 mw_Q_fetch rfl ⟨rfl, rfl, Nat.le_of_ble_eq_true rfl, Nat.le_of_ble_eq_true rfl⟩ rfl rfl rfl hl.1 rfl (Nat.le_of_ble_eq_true rfl) d_Q_doHighest_9 (fun H locs x114 M115 hk hw => ?_)
    refine cl_Vv (j := 5) (As := [.int a1, .int x114]) hC hw (ct_Q_combine _ _ _ _ hk) m_120 mw_Q_combine rfl ⟨rfl, rfl, Nat.le_of_ble_eq_true rfl, Nat.le_of_ble_eq_true rfl⟩ rfl rfl rfl hl.1 rfl (Nat.le_of_ble_eq_true rfl) d_Q_doHighest_12 (fun H locs M116 hk hw => ?_)
    refine lv_goto (tgt := 127) hx hb d_Q_doHighest_15 (by decide) ?_
    exact hj1 _ _ _ _ hk hw (lv_sub hl [0, 1, 2] rfl)
