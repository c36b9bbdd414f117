set_option maxHeartbeats 4000000 in
set_option maxRecDepth 100000 in
theorem ct_Q_finish {l : Launch} {D : va_G} {cA : ClassId} {ad tb : Nat → Nat} (M0 : Mem) (Q : Mem → Prop) (hk : wp_Q_finish M0 Q) : Ct l y_Q_finish ws_Q_finish rm_Q_finish D (ceC ad cA) cA tb [.ref (ad 5)] M0 (QV Q) := by
  refine Ct.of (own := "TileConsole$Processor") (cc := b_Q_finish) (maxL := 1) (ret := none) ceC_fix (by decide) rfl rfl (Nat.le_of_ble_eq_true rfl) ?_
  intro p e s m args below meth c A QQ ls H locs hQQ hC hr hlk hw hl
  have hx := hC.1.1
  have hb := hC.1.2.1
  unfold wp_Q_finish at hk
  have hl : lv_has ls 1 [(0, .ref (ad 5))] := hl
  refine lv_aload_n hx hb d_Q_finish_0 rfl (lv_at hl 0 rfl) ?_
  refine g_Q_locked hC hw m_34 d_Q_finish_1 ?_
  refine lv_if_eq (tgt := 8) hx hb d_Q_finish_4 (by decide) (fun hc => ?_) (fun hc => ?_)
  · have hk := hk.1 hc
    refine lv_aload_n hx hb d_Q_finish_8 rfl (lv_at hl 0 rfl) ?_
    refine lv_dup hx hb d_Q_finish_9 rfl ?_
    refine g_Q_done hC hw m_37 d_Q_finish_10 ?_
    refine lv_iconst (v := 1) hx hb d_Q_finish_13 (by decide) ?_
    refine lv_iadd hx hb d_Q_finish_14 ?_
    refine p_Q_done hC hw m_37 d_Q_finish_15 (fun H locs M1 e_M1 hw => ?_)
    have hk := hk M1 e_M1
    refine lv_aload_n hx hb d_Q_finish_18 rfl (lv_at hl 0 rfl) ?_
    refine lv_dup hx hb d_Q_finish_19 rfl ?_
    refine g_Q_cycles hC hw m_36 d_Q_finish_20 ?_
    refine lv_aload_n hx hb d_Q_finish_23 rfl (lv_at hl 0 rfl) ?_
    refine g_Q_time hC hw m_76 d_Q_finish_24 ?_
    refine lv_iadd hx hb d_Q_finish_27 ?_
    refine p_Q_cycles hC hw m_36 d_Q_finish_28 (fun H locs M2 e_M2 hw => ?_)
    have hk := hk M2 e_M2
    refine lv_aload_n hx hb d_Q_finish_31 rfl (lv_at hl 0 rfl) ?_
    refine g_Q_ports hC hw m_77 d_Q_finish_32 ?_
    refine lv_aload_n hx hb d_Q_finish_35 rfl (lv_at hl 0 rfl) ?_
    refine g_Q_time hC hw m_76 d_Q_finish_36 ?_
    refine cl_Vv (j := 2) (As := [.int (M2 5 10)]) hC hw (ct_P_pass _ _ _ hk) m_87 mw_P_pass rfl ⟨rfl, rfl, Nat.le_of_ble_eq_true rfl, Nat.le_of_ble_eq_true rfl⟩ rfl rfl rfl hl.1 rfl (Nat.le_of_ble_eq_true rfl) d_Q_finish_39 (fun H locs M3 hk hw => ?_)
    exact rt_v hQQ hx hb hr hlk hw ⟨rfl, hk⟩ d_Q_finish_42
  · have hk := hk.2 hc
    exact rt_v hQQ hx hb hr hlk hw ⟨rfl, hk⟩ d_Q_finish_7
set_option maxHeartbeats 4000000 in
set_option maxRecDepth 100000 in
theorem ct_Q_step {l : Launch} {D : va_G} {cA : ClassId} {ad tb : Nat → Nat} (M0 : Mem) (Q : Mem → Prop) (hk : wp_Q_step M0 Q) : Ct l y_Q_step ws_Q_step rm_Q_step D (ceC ad cA) cA tb [.ref (ad 5)] M0 (QV Q) := by
  refine Ct.of (own := "TileConsole$Processor") (cc := b_Q_step) (maxL := 5) (ret := none) ceC_fix (by decide) rfl rfl (Nat.le_of_ble_eq_true rfl) ?_
  intro p e s m args below meth c A QQ ls H locs hQQ hC hr hlk hw hl
  have hx := hC.1.1
  have hb := hC.1.2.1
  unfold wp_Q_step at hk
  have hl : lv_has ls 5 [(0, .ref (ad 5))] := hl
  refine lv_aload_n hx hb d_Q_step_0 rfl (lv_at hl 0 rfl) ?_
  refine g_Q_ports hC hw m_77 d_Q_step_1 ?_
  refine cl_Vip (j := 2) (As := []) hC hw (ct_P_waiting _  _ hk) m_121 mw_P_waiting rfl ⟨rfl, rfl, Nat.le_of_ble_eq_true rfl, Nat.le_of_ble_eq_true rfl⟩ rfl rfl rfl hl.1 rfl (Nat.le_of_ble_eq_true rfl) d_Q_step_4 (fun H locs x1 hk hw => ?_)
  refine lv_istore_n (lv' := [(1, .int x1), (0, .ref (ad 5))]) hx hb d_Q_step_7 rfl hl (by decide) rfl (fun ls hl => ?_)
  refine lv_aload_n hx hb d_Q_step_8 rfl (lv_at hl 1 rfl) ?_
  refine lv_iconst (v := 0) hx hb d_Q_step_9 (by decide) ?_
  refine p_Q_time hC hw m_76 d_Q_step_10 (fun H locs M2 e_M2 hw => ?_)
  have hk := hk M2 e_M2
  refine lv_iload_n hx hb d_Q_step_13 rfl (lv_at hl 0 rfl) ?_
  have hj1 : ∀ (H : Heap) (locs : List Loc) (ls : Array Slot) (M73 : Mem), wp_Q_step_j1 x1 M73 Q → Wd D (ceC ad cA) A s H locs M73 → lv_has ls 5 [(0, .ref (ad 5)), (1, .int x1)] → W p l e rm_Q_step s m args below meth c H locs 0 0 QQ (F0 m 22 ls []) := by
    intro H locs ls M73 hk hw hl
    unfold wp_Q_step_j1 at hk
    refine lv_iload_n hx hb d_Q_step_22 rfl (lv_at hl 1 rfl) ?_
    have hj2 : ∀ (H : Heap) (locs : List Loc) (ls : Array Slot) (M108 : Mem), wp_Q_step_j2 M108 Q → Wd D (ceC ad cA) A s H locs M108 → lv_has ls 5 [(0, .ref (ad 5)), (1, .int x1)] → W p l e rm_Q_step s m args below meth c H locs 0 0 QQ (F0 m 199 ls []) := by
      intro H locs ls M108 hk hw hl
      unfold wp_Q_step_j2 at hk
      refine lv_aload_n hx hb d_Q_step_199 rfl (lv_at hl 0 rfl) ?_
      refine cl_Vv (j := 5) (As := []) hC hw (ct_Q_finish _  _ hk) m_129 mw_Q_finish rfl ⟨rfl, rfl, Nat.le_of_ble_eq_true rfl, Nat.le_of_ble_eq_true rfl⟩ rfl rfl rfl hl.1 rfl (Nat.le_of_ble_eq_true rfl) d_Q_step_200 (fun H locs M109 hk hw => ?_)
      exact rt_v hQQ hx hb hr hlk hw ⟨rfl, hk⟩ d_Q_step_203
    have hj3 : ∀ (H : Heap) (locs : List Loc) (ls : Array Slot), wp_Q_step_j3 M73 Q → Wd D (ceC ad cA) A s H locs M73 → lv_has ls 5 [(0, .ref (ad 5)), (1, .int x1)] → W p l e rm_Q_step s m args below meth c H locs 0 0 QQ (F0 m 41 ls []) := by
      intro H locs ls  hk hw hl
      unfold wp_Q_step_j3 at hk
      refine lv_aload_n hx hb d_Q_step_41 rfl (lv_at hl 0 rfl) ?_
      refine g_Q_halted hC hw m_33 d_Q_step_42 ?_
      refine lv_if_eq (tgt := 53) hx hb d_Q_step_45 (by decide) (fun hc => ?_) (fun hc => ?_)
      · have hk := hk.1 hc
        refine lv_aload_n hx hb d_Q_step_53 rfl (lv_at hl 0 rfl) ?_
        refine lv_aload_n hx hb d_Q_step_54 rfl (lv_at hl 0 rfl) ?_
        refine g_Q_ime hC hw m_32 d_Q_step_55 ?_
        have hj4 : ∀ (H : Heap) (locs : List Loc) (ls : Array Slot) (x125 : Int32), wp_Q_step_j4 M73 x125 Q → Wd D (ceC ad cA) A s H locs M73 → lv_has ls 5 [(0, .ref (ad 5)), (1, .int x1)] → W p l e rm_Q_step s m args below meth c H locs 0 0 QQ (F0 m 73 ls [.int x125, .ref (ad 5)]) := by
          intro H locs ls x125 hk hw hl
          unfold wp_Q_step_j4 at hk
          obtain ⟨hz, hk⟩ := hk
          refine p_Q_ime hC hw hz m_32 d_Q_step_73 (fun H locs M126 e_M126 hw => ?_)
          have hk := hk M126 e_M126
          refine lv_aload_n hx hb d_Q_step_76 rfl (lv_at hl 0 rfl) ?_
          refine lv_iconst (v := 0) hx hb d_Q_step_77 (by decide) ?_
          refine p_Q_armed hC hw (Or.inl rfl) m_35 d_Q_step_78 (fun H locs M127 e_M127 hw => ?_)
          have hk := hk M127 e_M127
          refine lv_aload_n hx hb d_Q_step_81 rfl (lv_at hl 0 rfl) ?_
          refine cl_Vi (j := 5) (As := []) hC hw (ct_Q_fetch _  _ hk) m_89 mw_Q_fetch rfl ⟨rfl, rfl, Nat.le_of_ble_eq_true rfl, Nat.le_of_ble_eq_true rfl⟩ rfl rfl rfl hl.1 rfl (Nat.le_of_ble_eq_true rfl) d_Q_step_82 (fun H locs x128 M129 hk hw => ?_)
          refine lv_istore_n (lv' := [(2, .int x128), (0, .ref (ad 5)), (1, .int x1)]) hx hb d_Q_step_85 rfl hl (by decide) rfl (fun ls hl => ?_)
          refine lv_iload_n hx hb d_Q_step_86 rfl (lv_at hl 0 rfl) ?_
          refine lv_iconst (v := 3) hx hb d_Q_step_87 (by decide) ?_
          refine lv_ishr hx hb d_Q_step_88 ?_
          refine lv_bipush (v := 7) hx hb d_Q_step_89 (by decide) ?_
          refine lv_iand hx hb d_Q_step_91 ?_
          refine lv_topi (fun x130 e_x130 => ?_)
          have hk := hk x130 e_x130
          refine lv_istore_n (lv' := [(3, .int x130), (2, .int x128), (0, .ref (ad 5)), (1, .int x1)]) hx hb d_Q_step_92 rfl hl (by decide) rfl (fun ls hl => ?_)
          refine lv_iload_n hx hb d_Q_step_93 rfl (lv_at hl 1 rfl) ?_
          refine lv_bipush (v := 7) hx hb d_Q_step_94 (by decide) ?_
          refine lv_iand hx hb d_Q_step_96 ?_
          refine lv_topi (fun x131 e_x131 => ?_)
          have hk := hk x131 e_x131
          refine lv_istore (lv' := [(4, .int x131), (3, .int x130), (2, .int x128), (0, .ref (ad 5)), (1, .int x1)]) hx hb d_Q_step_97 hl (by decide) rfl (fun ls hl => ?_)
          refine lv_iload_n hx hb d_Q_step_99 rfl (lv_at hl 2 rfl) ?_
          refine lv_bipush (v := 6) hx hb d_Q_step_100 (by decide) ?_
          refine lv_ishr hx hb d_Q_step_102 ?_
          by_cases hs22 : ((x128 >>> ((6 : Int32) &&& (31 : Int32))) = (0 : Int32))
          · have hk := hk.1 hs22
            refine lv_tableIn (x := (x128 >>> ((6 : Int32) &&& (31 : Int32)))) (off := 25) (tgt := 128) hx hb d_Q_step_103 (by rw [hs22]; decide) (by rw [hs22]; decide) (by rw [hs22]; decide) (by decide) ?_
            refine lv_aload_n hx hb d_Q_step_128 rfl (lv_at hl 3 rfl) ?_
            refine lv_iload_n hx hb d_Q_step_129 rfl (lv_at hl 1 rfl) ?_
            refine lv_iload hx hb d_Q_step_130 (lv_at hl 0 rfl) ?_
            refine cl_Vv (j := 5) (As := [.int x130, .int x131]) hC hw (ct_Q_doLow _ _ _ _ hk) m_123 mw_Q_doLow rfl ⟨rfl, rfl, Nat.le_of_ble_eq_true rfl, Nat.le_of_ble_eq_true rfl⟩ rfl rfl rfl hl.1 rfl (Nat.le_of_ble_eq_true rfl) d_Q_step_132 (fun H locs M132 hk hw => ?_)
            refine lv_goto (tgt := 199) hx hb d_Q_step_135 (by decide) ?_
            exact hj2 _ _ _ _ hk hw (lv_sub hl [3, 4] rfl)
          · have hk := hk.2 hs22
            by_cases hs23 : ((x128 >>> ((6 : Int32) &&& (31 : Int32))) = (1 : Int32))
            · have hk := hk.1 hs23
              refine lv_tableIn (x := (x128 >>> ((6 : Int32) &&& (31 : Int32)))) (off := 35) (tgt := 138) hx hb d_Q_step_103 (by rw [hs23]; decide) (by rw [hs23]; decide) (by rw [hs23]; decide) (by decide) ?_
              refine lv_aload_n hx hb d_Q_step_138 rfl (lv_at hl 3 rfl) ?_
              refine lv_iload_n hx hb d_Q_step_139 rfl (lv_at hl 1 rfl) ?_
              refine lv_iload hx hb d_Q_step_140 (lv_at hl 0 rfl) ?_
              refine cl_Vv (j := 5) (As := [.int x130, .int x131]) hC hw (ct_Q_doCopy _ _ _ _ hk) m_124 mw_Q_doCopy rfl ⟨rfl, rfl, Nat.le_of_ble_eq_true rfl, Nat.le_of_ble_eq_true rfl⟩ rfl rfl rfl hl.1 rfl (Nat.le_of_ble_eq_true rfl) d_Q_step_142 (fun H locs M133 hk hw => ?_)
              refine lv_goto (tgt := 199) hx hb d_Q_step_145 (by decide) ?_
              exact hj2 _ _ _ _ hk hw (lv_sub hl [3, 4] rfl)
            · have hk := hk.2 hs23
              by_cases hs24 : ((x128 >>> ((6 : Int32) &&& (31 : Int32))) = (2 : Int32))
              · have hk := hk.1 hs24
                refine lv_tableIn (x := (x128 >>> ((6 : Int32) &&& (31 : Int32)))) (off := 45) (tgt := 148) hx hb d_Q_step_103 (by rw [hs24]; decide) (by rw [hs24]; decide) (by rw [hs24]; decide) (by decide) ?_
                refine lv_aload_n hx hb d_Q_step_148 rfl (lv_at hl 3 rfl) ?_
                refine lv_iload_n hx hb d_Q_step_149 rfl (lv_at hl 1 rfl) ?_
                refine lv_aload_n hx hb d_Q_step_150 rfl (lv_at hl 3 rfl) ?_
                refine lv_iload hx hb d_Q_step_151 (lv_at hl 0 rfl) ?_
                refine cl_Vi (j := 5) (As := [.int x131]) hC hw (ct_Q_octetAt _ _ _ hk) m_105 mw_Q_octetAt rfl ⟨rfl, rfl, Nat.le_of_ble_eq_true rfl, Nat.le_of_ble_eq_true rfl⟩ rfl rfl rfl hl.1 rfl (Nat.le_of_ble_eq_true rfl) d_Q_step_153 (fun H locs x134 M135 hk hw => ?_)
                refine cl_Vv (j := 5) (As := [.int x130, .int x134]) hC hw (ct_Q_combine _ _ _ _ hk) m_120 mw_Q_combine rfl ⟨rfl, rfl, Nat.le_of_ble_eq_true rfl, Nat.le_of_ble_eq_true rfl⟩ rfl rfl rfl hl.1 rfl (Nat.le_of_ble_eq_true rfl) d_Q_step_156 (fun H locs M136 hk hw => ?_)
                refine lv_goto (tgt := 199) hx hb d_Q_step_159 (by decide) ?_
                exact hj2 _ _ _ _ hk hw (lv_sub hl [3, 4] rfl)
              · have hk := hk.2 hs24
                refine lv_tableOut (x := (x128 >>> ((6 : Int32) &&& (31 : Int32)))) (tgt := 162) hx hb d_Q_step_103 (by have hz := (⟨lv_neT hs22 (show ((0 : Int32)).toInt = 0 by decide), lv_neT hs23 (show ((1 : Int32)).toInt = 1 by decide), lv_neT hs24 (show ((2 : Int32)).toInt = 2 by decide)⟩ : ¬ ((x128 >>> ((6 : Int32) &&& (31 : Int32)))).toInt = 0 ∧ ¬ ((x128 >>> ((6 : Int32) &&& (31 : Int32)))).toInt = 1 ∧ ¬ ((x128 >>> ((6 : Int32) &&& (31 : Int32)))).toInt = 2); omega) (by decide) ?_
                refine lv_iload_n hx hb d_Q_step_162 rfl (lv_at hl 2 rfl) ?_
                refine lv_sipush (v := 203) hx hb d_Q_step_163 (by decide) ?_
                refine lv_icmp_ne (tgt := 176) hx hb d_Q_step_166 (by decide) (fun hc => ?_) (fun hc => ?_)
                · have hk := hk.1 hc
                  refine lv_iload hx hb d_Q_step_176 (lv_at hl 0 rfl) ?_
                  refine lv_iconst (v := 4) hx hb d_Q_step_178 (by decide) ?_
                  refine lv_icmp_ge (tgt := 192) hx hb d_Q_step_179 (by decide) (fun hc => ?_) (fun hc => ?_)
                  · have hk := hk.1 hc
                    refine lv_aload_n hx hb d_Q_step_192 rfl (lv_at hl 3 rfl) ?_
                    refine lv_iload_n hx hb d_Q_step_193 rfl (lv_at hl 1 rfl) ?_
                    refine lv_iload hx hb d_Q_step_194 (lv_at hl 0 rfl) ?_
                    refine cl_Vv (j := 5) (As := [.int x130, .int x131]) hC hw (ct_Q_doHighest _ _ _ _ hk) m_125 mw_Q_doHighest rfl ⟨rfl, rfl, Nat.le_of_ble_eq_true rfl, Nat.le_of_ble_eq_true rfl⟩ rfl rfl rfl hl.1 rfl (Nat.le_of_ble_eq_true rfl) d_Q_step_196 (fun H locs M137 hk hw => ?_)
                    exact hj2 _ _ _ _ hk hw (lv_sub hl [3, 4] rfl)
                  · have hk := hk.2 hc
                    refine lv_aload_n hx hb d_Q_step_182 rfl (lv_at hl 3 rfl) ?_
                    refine lv_iload_n hx hb d_Q_step_183 rfl (lv_at hl 1 rfl) ?_
                    refine lv_iload hx hb d_Q_step_184 (lv_at hl 0 rfl) ?_
                    refine cl_Vv (j := 5) (As := [.int x130, .int x131]) hC hw (ct_Q_doHigh _ _ _ _ hk) m_126 mw_Q_doHigh rfl ⟨rfl, rfl, Nat.le_of_ble_eq_true rfl, Nat.le_of_ble_eq_true rfl⟩ rfl rfl rfl hl.1 rfl (Nat.le_of_ble_eq_true rfl) d_Q_step_186 (fun H locs M138 hk hw => ?_)
                    refine lv_goto (tgt := 199) hx hb d_Q_step_189 (by decide) ?_
                    exact hj2 _ _ _ _ hk hw (lv_sub hl [3, 4] rfl)
                · have hk := hk.2 hc
                  refine lv_aload_n hx hb d_Q_step_169 rfl (lv_at hl 3 rfl) ?_
                  refine cl_Vv (j := 5) (As := []) hC hw (ct_Q_doPrefixed _  _ hk) m_127 mw_Q_doPrefixed rfl ⟨rfl, rfl, Nat.le_of_ble_eq_true rfl, Nat.le_of_ble_eq_true rfl⟩ rfl rfl rfl hl.1 rfl (Nat.le_of_ble_eq_true rfl) d_Q_step_170 (fun H locs M139 hk hw => ?_)
                  refine lv_goto (tgt := 199) hx hb d_Q_step_173 (by decide) ?_
                  exact hj2 _ _ _ _ hk hw (lv_sub hl [3, 4] rfl)
        have hj5 : ∀ (H : Heap) (locs : List Loc) (ls : Array Slot), wp_Q_step_j5 M73 Q → Wd D (ceC ad cA) A s H locs M73 → lv_has ls 5 [(0, .ref (ad 5)), (1, .int x1)] → W p l e rm_Q_step s m args below meth c H locs 0 0 QQ (F0 m 68 ls [.ref (ad 5)]) := by
          intro H locs ls  hk hw hl
          unfold wp_Q_step_j5 at hk
          refine lv_iconst (v := 1) hx hb d_Q_step_68 (by decide) ?_
          refine lv_goto (tgt := 73) hx hb d_Q_step_69 (by decide) ?_
          exact hj4 _ _ _ _ hk hw (lv_sub hl [0, 1] rfl)
        refine lv_if_ne (tgt := 68) hx hb d_Q_step_58 (by decide) (fun hc => ?_) (fun hc => ?_)
        · have hk := hk.1 hc
          exact hj5 _ _ _  hk hw (lv_sub hl [0, 1] rfl)
        · have hk := hk.2 hc
          refine lv_aload_n hx hb d_Q_step_61 rfl (lv_at hl 0 rfl) ?_
          refine g_Q_armed hC hw m_35 d_Q_step_62 ?_
          refine lv_if_eq (tgt := 72) hx hb d_Q_step_65 (by decide) (fun hc => ?_) (fun hc => ?_)
          · have hk := hk.1 hc
            refine lv_iconst (v := 0) hx hb d_Q_step_72 (by decide) ?_
            exact hj4 _ _ _ _ hk hw (lv_sub hl [0, 1] rfl)
          · have hk := hk.2 hc
            exact hj5 _ _ _  hk hw (lv_sub hl [0, 1] rfl)
      · have hk := hk.2 hc
        refine lv_aload_n hx hb d_Q_step_48 rfl (lv_at hl 0 rfl) ?_
        refine cl_Vv (j := 5) (As := []) hC hw (ct_Q_passHalted _  _ hk) m_128 mw_Q_passHalted rfl ⟨rfl, rfl, Nat.le_of_ble_eq_true rfl, Nat.le_of_ble_eq_true rfl⟩ rfl rfl rfl hl.1 rfl (Nat.le_of_ble_eq_true rfl) d_Q_step_49 (fun H locs M140 hk hw => ?_)
        exact rt_v hQQ hx hb hr hlk hw ⟨rfl, hk⟩ d_Q_step_52
    refine lv_if_eq (tgt := 41) hx hb d_Q_step_23 (by decide) (fun hc => ?_) (fun hc => ?_)
    · have hk := hk.1 hc
      exact hj3 _ _ _  hk hw (lv_sub hl [0, 1] rfl)
    · have hk := hk.2 hc
      refine lv_aload_n hx hb d_Q_step_26 rfl (lv_at hl 0 rfl) ?_
      refine g_Q_ime hC hw m_32 d_Q_step_27 ?_
      refine lv_if_eq (tgt := 41) hx hb d_Q_step_30 (by decide) (fun hc => ?_) (fun hc => ?_)
      · have hk := hk.1 hc
        exact hj3 _ _ _  hk hw (lv_sub hl [0, 1] rfl)
      · have hk := hk.2 hc
        refine lv_aload_n hx hb d_Q_step_33 rfl (lv_at hl 0 rfl) ?_
        refine lv_iload_n hx hb d_Q_step_34 rfl (lv_at hl 1 rfl) ?_
        refine cl_Vv (j := 5) (As := [.int x1]) hC hw (ct_Q_takeInterrupt _ _ _ hk) m_122 mw_Q_takeInterrupt rfl ⟨rfl, rfl, Nat.le_of_ble_eq_true rfl, Nat.le_of_ble_eq_true rfl⟩ rfl rfl rfl hl.1 rfl (Nat.le_of_ble_eq_true rfl) d_Q_step_35 (fun H locs M141 hk hw => ?_)
        refine lv_goto (tgt := 199) hx hb d_Q_step_38 (by decide) ?_
        exact hj2 _ _ _ _ hk hw (lv_sub hl [0, 1] rfl)
  refine lv_if_eq (tgt := 22) hx hb d_Q_step_14 (by decide) (fun hc => ?_) (fun hc => ?_)
  · have hk := hk.1 hc
    exact hj1 _ _ _ _ hk hw (lv_sub hl [1, 0] rfl)
  · have hk := hk.2 hc
    refine lv_aload_n hx hb d_Q_step_17 rfl (lv_at hl 1 rfl) ?_
    refine lv_iconst (v := 0) hx hb d_Q_step_18 (by decide) ?_
    refine p_Q_halted hC hw (Or.inl rfl) m_33 d_Q_step_19 (fun H locs M142 e_M142 hw => ?_)
    have hk := hk M142 e_M142
    exact hj1 _ _ _ _ hk hw (lv_sub hl [1, 0] rfl)
set_option maxHeartbeats 4000000 in
set_option maxRecDepth 100000 in
theorem ct_Q_valueOf {l : Launch} {D : va_G} {cA : ClassId} {ad tb : Nat → Nat} (M0 : Mem) (a1 : Int32) (Q : Int32 → Prop) (hk : wp_Q_valueOf M0 a1 Q) : Ct l y_Q_valueOf ws_Q_valueOf rm_Q_valueOf D (ceC ad cA) cA tb [.ref (ad 5), .int a1] M0 (QIp M0 Q) := by
  refine Ct.of (own := "TileConsole$Processor") (cc := b_Q_valueOf) (maxL := 2) (ret := (some .int)) ceC_fix (by decide) rfl rfl (Nat.le_of_ble_eq_true rfl) ?_
  intro p e s m args below meth c A QQ ls H locs hQQ hC hr hlk hw hl
  have hx := hC.1.1
  have hb := hC.1.2.1
  unfold wp_Q_valueOf at hk
  have hl : lv_has ls 2 [(0, .ref (ad 5)), (1, .int a1)] := hl
  refine lv_iload_n hx hb d_Q_valueOf_0 rfl (lv_at hl 1 rfl) ?_
  refine lv_bipush (v := 8) hx hb d_Q_valueOf_1 (by decide) ?_
  refine lv_icmp_ge (tgt := 20) hx hb d_Q_valueOf_3 (by decide) (fun hc => ?_) (fun hc => ?_)
  · have hk := hk.1 hc
    refine lv_iload_n hx hb d_Q_valueOf_20 rfl (lv_at hl 1 rfl) ?_
    refine lv_bipush (v := 8) hx hb d_Q_valueOf_21 (by decide) ?_
    have hj1 : ∀ (H : Heap) (locs : List Loc) (ls : Array Slot) (x2 : Int32), wp_Q_valueOf_j1 x2 Q → Wd D (ceC ad cA) A s H locs M0 → lv_has ls 2 [(0, .ref (ad 5)), (1, .int a1)] → W p l e rm_Q_valueOf s m args below meth c H locs 0 0 QQ (F0 m 37 ls [.int x2]) := by
      intro H locs ls x2 hk hw hl
      unfold wp_Q_valueOf_j1 at hk
      exact rt_i hQQ hx hb hr hlk hw ⟨rfl, _, rfl, hk⟩ d_Q_valueOf_37
    refine lv_icmp_ne (tgt := 33) hx hb d_Q_valueOf_23 (by decide) (fun hc => ?_) (fun hc => ?_)
    · have hk := hk.1 hc
      refine lv_aload_n hx hb d_Q_valueOf_33 rfl (lv_at hl 0 rfl) ?_
      refine g_Q_pc hC hw m_31 d_Q_valueOf_34 ?_
      exact hj1 _ _ _ _ hk hw (lv_sub hl [0, 1] rfl)
    · have hk := hk.2 hc
      refine lv_aload_n hx hb d_Q_valueOf_26 rfl (lv_at hl 0 rfl) ?_
      refine g_Q_sp hC hw m_28 d_Q_valueOf_27 ?_
      refine lv_goto (tgt := 37) hx hb d_Q_valueOf_30 (by decide) ?_
      exact hj1 _ _ _ _ hk hw (lv_sub hl [0, 1] rfl)
  · have hk := hk.2 hc
    refine lv_aload_n hx hb d_Q_valueOf_6 rfl (lv_at hl 0 rfl) ?_
    refine g_Q_r hC hw m_26 d_Q_valueOf_7 ?_
    refine gs_1 hC hw m_130 d_Q_valueOf_10 ?_
    refine lv_iload_n hx hb d_Q_valueOf_13 rfl (lv_at hl 1 rfl) ?_
    refine lv_bipush (v := 7) hx hb d_Q_valueOf_14 (by decide) ?_
    refine lv_iand hx hb d_Q_valueOf_16 ?_
    obtain ⟨hin, hk⟩ := hk
    refine tl_1 hC hw hin rfl d_Q_valueOf_17 ?_
    obtain ⟨hin, hk⟩ := hk
    refine ld_17 hC hw hin rfl d_Q_valueOf_18 ?_
    exact rt_i hQQ hx hb hr hlk hw ⟨rfl, _, rfl, hk⟩ d_Q_valueOf_19
set_option maxHeartbeats 4000000 in
set_option maxRecDepth 100000 in
theorem ct_Q_put {l : Launch} {D : va_G} {cA : ClassId} {ad tb : Nat → Nat} (M0 : Mem) (a1 : Int32) (a2 : Int32) (Q : Mem → Prop) (hk : wp_Q_put M0 a1 a2 Q) : Ct l y_Q_put ws_Q_put rm_Q_put D (ceC ad cA) cA tb [.ref (ad 5), .int a1, .int a2] M0 (QV Q) := by
  refine Ct.of (own := "TileConsole$Processor") (cc := b_Q_put) (maxL := 3) (ret := none) ceC_fix (by decide) rfl rfl (Nat.le_of_ble_eq_true rfl) ?_
  intro p e s m args below meth c A QQ ls H locs hQQ hC hr hlk hw hl
  have hx := hC.1.1
  have hb := hC.1.2.1
  unfold wp_Q_put at hk
  have hl : lv_has ls 3 [(0, .ref (ad 5)), (1, .int a1), (2, .int a2)] := hl
  refine lv_iload_n hx hb d_Q_put_0 rfl (lv_at hl 1 rfl) ?_
  refine lv_iconst (v := 1) hx hb d_Q_put_1 (by decide) ?_
  have hj1 : ∀ (H : Heap) (locs : List Loc) (ls : Array Slot) (M6 : Mem), wp_Q_put_j1 M6 Q → Wd D (ceC ad cA) A s H locs M6 → lv_has ls 3 [(0, .ref (ad 5)), (1, .int a1), (2, .int a2)] → W p l e rm_Q_put s m args below meth c H locs 0 0 QQ (F0 m 72 ls []) := by
    intro H locs ls M6 hk hw hl
    unfold wp_Q_put_j1 at hk
    exact rt_v hQQ hx hb hr hlk hw ⟨rfl, hk⟩ d_Q_put_72
  refine lv_icmp_ne (tgt := 20) hx hb d_Q_put_2 (by decide) (fun hc => ?_) (fun hc => ?_)
  · have hk := hk.1 hc
    refine lv_iload_n hx hb d_Q_put_20 rfl (lv_at hl 1 rfl) ?_
    refine lv_bipush (v := 8) hx hb d_Q_put_21 (by decide) ?_
    refine lv_icmp_ge (tgt := 47) hx hb d_Q_put_23 (by decide) (fun hc => ?_) (fun hc => ?_)
    · have hk := hk.1 hc
      refine lv_iload_n hx hb d_Q_put_47 rfl (lv_at hl 1 rfl) ?_
      refine lv_bipush (v := 8) hx hb d_Q_put_48 (by decide) ?_
      refine lv_icmp_ne (tgt := 64) hx hb d_Q_put_50 (by decide) (fun hc => ?_) (fun hc => ?_)
      · have hk := hk.1 hc
        refine lv_aload_n hx hb d_Q_put_64 rfl (lv_at hl 0 rfl) ?_
        refine lv_iload_n hx hb d_Q_put_65 rfl (lv_at hl 2 rfl) ?_
        refine lv_ldc (v := (65535 : Int32)) hx hb hC.1.2.2.2.1 (hC.1.2.2.2.2 _ m_27) d_Q_put_66 ?_
        refine lv_iand hx hb d_Q_put_68 ?_
        refine p_Q_pc hC hw m_31 d_Q_put_69 (fun H locs M7 e_M7 hw => ?_)
        have hk := hk M7 e_M7
        exact hj1 _ _ _ _ hk hw (lv_sub hl [0, 1, 2] rfl)
      · have hk := hk.2 hc
        refine lv_aload_n hx hb d_Q_put_53 rfl (lv_at hl 0 rfl) ?_
        refine lv_iload_n hx hb d_Q_put_54 rfl (lv_at hl 2 rfl) ?_
        refine lv_ldc (v := (65535 : Int32)) hx hb hC.1.2.2.2.1 (hC.1.2.2.2.2 _ m_27) d_Q_put_55 ?_
        refine lv_iand hx hb d_Q_put_57 ?_
        refine p_Q_sp hC hw m_28 d_Q_put_58 (fun H locs M8 e_M8 hw => ?_)
        have hk := hk M8 e_M8
        refine lv_goto (tgt := 72) hx hb d_Q_put_61 (by decide) ?_
        exact hj1 _ _ _ _ hk hw (lv_sub hl [0, 1, 2] rfl)
    · have hk := hk.2 hc
      refine lv_aload_n hx hb d_Q_put_26 rfl (lv_at hl 0 rfl) ?_
      refine g_Q_r hC hw m_26 d_Q_put_27 ?_
      refine gs_1 hC hw m_130 d_Q_put_30 ?_
      refine lv_iload_n hx hb d_Q_put_33 rfl (lv_at hl 1 rfl) ?_
      refine lv_bipush (v := 7) hx hb d_Q_put_34 (by decide) ?_
      refine lv_iand hx hb d_Q_put_36 ?_
      obtain ⟨hin, hk⟩ := hk
      refine tl_1 hC hw hin rfl d_Q_put_37 ?_
      refine lv_iload_n hx hb d_Q_put_38 rfl (lv_at hl 2 rfl) ?_
      refine lv_sipush (v := 255) hx hb d_Q_put_39 (by decide) ?_
      refine lv_iand hx hb d_Q_put_42 ?_
      obtain ⟨hin, hk⟩ := hk
      refine st_17 hC hw hin rfl d_Q_put_43 (fun H locs M9 e_M9 hw => ?_)
      have hk := hk M9 e_M9
      refine lv_goto (tgt := 72) hx hb d_Q_put_44 (by decide) ?_
      exact hj1 _ _ _ _ hk hw (lv_sub hl [0, 1, 2] rfl)
  · have hk := hk.2 hc
    refine lv_aload_n hx hb d_Q_put_5 rfl (lv_at hl 0 rfl) ?_
    refine g_Q_r hC hw m_26 d_Q_put_6 ?_
    refine lv_bipush (v := 6) hx hb d_Q_put_9 (by decide) ?_
    refine lv_iload_n hx hb d_Q_put_11 rfl (lv_at hl 2 rfl) ?_
    refine lv_sipush (v := 240) hx hb d_Q_put_12 (by decide) ?_
    refine lv_iand hx hb d_Q_put_15 ?_
    refine st_17 (k := 6) hC hw (vin_lit rfl) (by decide) d_Q_put_16 (fun H locs M10 e_M10 hw => ?_)
    have hk := hk M10 e_M10
    refine lv_goto (tgt := 72) hx hb d_Q_put_17 (by decide) ?_
    exact hj1 _ _ _ _ hk hw (lv_sub hl [0, 1, 2] rfl)
set_option maxHeartbeats 4000000 in
set_option maxRecDepth 100000 in
theorem ct_P_press {l : Launch} {D : va_G} {cA : ClassId} {ad tb : Nat → Nat} (M0 : Mem) (a1 : Int32) (Q : Int32 → Mem → Prop) (hk : wp_P_press M0 a1 Q) : Ct l y_P_press ws_P_press rm_P_press D (ceC ad cA) cA tb [.ref (ad 2), .int a1] M0 (QI Q) := by
  refine Ct.of (own := "TileConsole$Ports") (cc := b_P_press) (maxL := 3) (ret := (some .int)) ceC_fix (by decide) rfl rfl (Nat.le_of_ble_eq_true rfl) ?_
  intro p e s m args below meth c A QQ ls H locs hQQ hC hr hlk hw hl
  have hx := hC.1.1
  have hb := hC.1.2.1
  unfold wp_P_press at hk
  have hl : lv_has ls 3 [(0, .ref (ad 2)), (1, .int a1)] := hl
  refine lv_aload_n hx hb d_P_press_0 rfl (lv_at hl 0 rfl) ?_
  refine g_P_down hC hw m_55 d_P_press_1 ?_
  refine lv_topi (fun x1 e_x1 => ?_)
  have hk := hk x1 e_x1
  refine lv_istore_n (lv' := [(2, .int x1), (0, .ref (ad 2)), (1, .int a1)]) hx hb d_P_press_4 rfl hl (by decide) rfl (fun ls hl => ?_)
  refine lv_aload_n hx hb d_P_press_5 rfl (lv_at hl 1 rfl) ?_
  refine lv_iload_n hx hb d_P_press_6 rfl (lv_at hl 2 rfl) ?_
  refine p_P_down hC hw m_55 d_P_press_7 (fun H locs M2 e_M2 hw => ?_)
  have hk := hk M2 e_M2
  refine lv_iload_n hx hb d_P_press_10 rfl (lv_at hl 2 rfl) ?_
  refine lv_iload_n hx hb d_P_press_11 rfl (lv_at hl 0 rfl) ?_
  refine lv_iconst (v := (-1)) hx hb d_P_press_12 (by decide) ?_
  refine lv_ixor hx hb d_P_press_13 ?_
  refine lv_iand hx hb d_P_press_14 ?_
  have hj1 : ∀ (H : Heap) (locs : List Loc) (ls : Array Slot) (M5 : Mem), wp_P_press_j1 x1 M5 Q → Wd D (ceC ad cA) A s H locs M5 → lv_has ls 3 [(0, .ref (ad 2)), (1, .int a1), (2, .int x1)] → W p l e rm_P_press s m args below meth c H locs 0 0 QQ (F0 m 30 ls []) := by
    intro H locs ls M5 hk hw hl
    unfold wp_P_press_j1 at hk
    refine lv_iload_n hx hb d_P_press_30 rfl (lv_at hl 2 rfl) ?_
    exact rt_i hQQ hx hb hr hlk hw ⟨_, rfl, hk⟩ d_P_press_31
  refine lv_if_eq (tgt := 30) hx hb d_P_press_15 (by decide) (fun hc => ?_) (fun hc => ?_)
  · have hk := hk.1 hc
    exact hj1 _ _ _ _ hk hw (lv_sub hl [1, 2, 0] rfl)
  · have hk := hk.2 hc
    refine lv_aload_n hx hb d_P_press_18 rfl (lv_at hl 1 rfl) ?_
    refine g_P_octets hC hw m_10 d_P_press_19 ?_
    refine lv_bipush (v := 15) hx hb d_P_press_22 (by decide) ?_
    refine lv_dup2_11 hx hb d_P_press_24 rfl rfl ?_
    refine ld_8 (k := 15) hC hw (vin_lit rfl) (by decide) d_P_press_25 ?_
    refine lv_bipush (v := 16) hx hb d_P_press_26 (by decide) ?_
    refine lv_ior hx hb d_P_press_28 ?_
    refine st_8 (k := 15) hC hw (vin_lit rfl) (by decide) d_P_press_29 (fun H locs M6 e_M6 hw => ?_)
    have hk := hk M6 e_M6
    exact hj1 _ _ _ _ hk hw (lv_sub hl [1, 2, 0] rfl)
set_option maxHeartbeats 4000000 in
set_option maxRecDepth 100000 in
theorem ct_S_has {l : Launch} {D : va_G} {cA : ClassId} {ad tb : Nat → Nat} (M0 : Mem) (a1 : Int32) (Q : Int32 → Prop) (hk : wp_S_has M0 a1 Q) : Ct l y_S_has ws_S_has rm_S_has D (ceC ad cA) cA tb [.ref (ad 4), .int a1] M0 (QIp M0 Q) := by
  refine Ct.of (own := "TileConsole$Screen") (cc := b_S_has) (maxL := 2) (ret := (some .boolean)) ceC_fix (by decide) rfl rfl (Nat.le_of_ble_eq_true rfl) ?_
  intro p e s m args below meth c A QQ ls H locs hQQ hC hr hlk hw hl
  have hx := hC.1.1
  have hb := hC.1.2.1
  unfold wp_S_has at hk
  have hl : lv_has ls 2 [(0, .ref (ad 4)), (1, .int a1)] := hl
  refine lv_aload_n hx hb d_S_has_0 rfl (lv_at hl 0 rfl) ?_
  refine g_S_ports hC hw m_131 d_S_has_1 ?_
  refine lv_bipush (v := 64) hx hb d_S_has_4 (by decide) ?_
  refine ld_8 (k := 64) hC hw (vin_lit rfl) (by decide) d_S_has_6 ?_
  refine lv_iload_n hx hb d_S_has_7 rfl (lv_at hl 1 rfl) ?_
  refine lv_iand hx hb d_S_has_8 ?_
  have hj1 : ∀ (H : Heap) (locs : List Loc) (ls : Array Slot) (x2 : Int32), wp_S_has_j1 x2 Q → Wd D (ceC ad cA) A s H locs M0 → lv_has ls 2 [(0, .ref (ad 4)), (1, .int a1)] → W p l e rm_S_has s m args below meth c H locs 0 0 QQ (F0 m 17 ls [.int x2]) := by
    intro H locs ls x2 hk hw hl
    unfold wp_S_has_j1 at hk
    obtain ⟨hz, hk⟩ := hk
    exact rt_z hQQ hx hb hr hlk hw hz ⟨rfl, _, rfl, hk⟩ d_S_has_17
  refine lv_if_eq (tgt := 16) hx hb d_S_has_9 (by decide) (fun hc => ?_) (fun hc => ?_)
  · have hk := hk.1 hc
    refine lv_iconst (v := 0) hx hb d_S_has_16 (by decide) ?_
    exact hj1 _ _ _ _ hk hw (lv_sub hl [0, 1] rfl)
  · have hk := hk.2 hc
    refine lv_iconst (v := 1) hx hb d_S_has_12 (by decide) ?_
    refine lv_goto (tgt := 17) hx hb d_S_has_13 (by decide) ?_
    exact hj1 _ _ _ _ hk hw (lv_sub hl [0, 1] rfl)
set_option maxHeartbeats 4000000 in
set_option maxRecDepth 100000 in
theorem ct_S_numberAt {l : Launch} {D : va_G} {cA : ClassId} {ad tb : Nat → Nat} (M0 : Mem) (a1 : Int32) (a2 : Int32) (Q : Int32 → Prop) (hk : wp_S_numberAt M0 a1 a2 Q) : Ct l y_S_numberAt ws_S_numberAt rm_S_numberAt D (ceC ad cA) cA tb [.ref (ad 4), .int a1, .int a2] M0 (QIp M0 Q) := by
  refine Ct.of (own := "TileConsole$Screen") (cc := b_S_numberAt) (maxL := 5) (ret := (some .int)) ceC_fix (by decide) rfl rfl (Nat.le_of_ble_eq_true rfl) ?_
  intro p e s m args below meth c A QQ ls H locs hQQ hC hr hlk hw hl
  have hx := hC.1.1
  have hb := hC.1.2.1
  unfold wp_S_numberAt at hk
  have hl : lv_has ls 5 [(0, .ref (ad 4)), (1, .int a1), (2, .int a2)] := hl
  refine lv_aload_n hx hb d_S_numberAt_0 rfl (lv_at hl 0 rfl) ?_
  refine g_S_video hC hw m_132 d_S_numberAt_1 ?_
  refine lv_iload_n hx hb d_S_numberAt_4 rfl (lv_at hl 1 rfl) ?_
  refine lv_sipush (v := 8191) hx hb d_S_numberAt_5 (by decide) ?_
  refine lv_iand hx hb d_S_numberAt_8 ?_
  obtain ⟨hin, hk⟩ := hk
  refine ld_9 hC hw hin rfl d_S_numberAt_9 ?_
  refine lv_iload_n hx hb d_S_numberAt_10 rfl (lv_at hl 2 rfl) ?_
  refine lv_ishr hx hb d_S_numberAt_11 ?_
  refine lv_iconst (v := 1) hx hb d_S_numberAt_12 (by decide) ?_
  refine lv_iand hx hb d_S_numberAt_13 ?_
  refine lv_topi (fun x1 e_x1 => ?_)
  have hk := hk x1 e_x1
  refine lv_istore_n (lv' := [(3, .int x1), (0, .ref (ad 4)), (1, .int a1), (2, .int a2)]) hx hb d_S_numberAt_14 rfl hl (by decide) rfl (fun ls hl => ?_)
  refine lv_aload_n hx hb d_S_numberAt_15 rfl (lv_at hl 1 rfl) ?_
  refine g_S_video hC hw m_132 d_S_numberAt_16 ?_
  refine lv_iload_n hx hb d_S_numberAt_19 rfl (lv_at hl 2 rfl) ?_
  refine lv_iconst (v := 1) hx hb d_S_numberAt_20 (by decide) ?_
  refine lv_iadd hx hb d_S_numberAt_21 ?_
  refine lv_sipush (v := 8191) hx hb d_S_numberAt_22 (by decide) ?_
  refine lv_iand hx hb d_S_numberAt_25 ?_
  obtain ⟨hin, hk⟩ := hk
  refine ld_9 hC hw hin rfl d_S_numberAt_26 ?_
  refine lv_iload_n hx hb d_S_numberAt_27 rfl (lv_at hl 3 rfl) ?_
  refine lv_ishr hx hb d_S_numberAt_28 ?_
  refine lv_iconst (v := 1) hx hb d_S_numberAt_29 (by decide) ?_
  refine lv_iand hx hb d_S_numberAt_30 ?_
  refine lv_topi (fun x2 e_x2 => ?_)
  have hk := hk x2 e_x2
  refine lv_istore (lv' := [(4, .int x2), (3, .int x1), (0, .ref (ad 4)), (1, .int a1), (2, .int a2)]) hx hb d_S_numberAt_31 hl (by decide) rfl (fun ls hl => ?_)
  refine lv_iload_n hx hb d_S_numberAt_33 rfl (lv_at hl 1 rfl) ?_
  refine lv_iconst (v := 2) hx hb d_S_numberAt_34 (by decide) ?_
  refine lv_iload hx hb d_S_numberAt_35 (lv_at hl 0 rfl) ?_
  refine lv_imul hx hb d_S_numberAt_37 ?_
  refine lv_iadd hx hb d_S_numberAt_38 ?_
  exact rt_i hQQ hx hb hr hlk hw ⟨rfl, _, rfl, hk⟩ d_S_numberAt_39
set_option maxHeartbeats 4000000 in
set_option maxRecDepth 100000 in
theorem ct_S_placeSprite {l : Launch} {D : va_G} {cA : ClassId} {ad tb : Nat → Nat} (M0 : Mem) (a1 : Int32) (a2 : Int32) (a3 : Int32) (Q : Mem → Prop) (hk : wp_S_placeSprite M0 a1 a2 a3 Q) : Ct l y_S_placeSprite ws_S_placeSprite rm_S_placeSprite D (ceC ad cA) cA tb [.ref (ad 4), .int a1, .int a2, .int a3] M0 (QV Q) := by
  refine Ct.of (own := "TileConsole$Screen") (cc := b_S_placeSprite) (maxL := 11) (ret := none) ceC_fix (by decide) rfl rfl (Nat.le_of_ble_eq_true rfl) ?_
  intro p e s m args below meth c A QQ ls H locs hQQ hC hr hlk hw hl
  have hx := hC.1.1
  have hb := hC.1.2.1
  unfold wp_S_placeSprite at hk
  have hl : lv_has ls 11 [(0, .ref (ad 4)), (1, .int a1), (2, .int a2), (3, .int a3)] := hl
  refine lv_aload_n hx hb d_S_placeSprite_0 rfl (lv_at hl 0 rfl) ?_
  refine g_S_sprites hC hw m_133 d_S_placeSprite_1 ?_
  refine lv_iload_n hx hb d_S_placeSprite_4 rfl (lv_at hl 1 rfl) ?_
  refine lv_iconst (v := 1) hx hb d_S_placeSprite_5 (by decide) ?_
  refine lv_iadd hx hb d_S_placeSprite_6 ?_
  obtain ⟨hin, hk⟩ := hk
  refine ld_10 hC hw hin rfl d_S_placeSprite_7 ?_
  refine lv_topi (fun x1 e_x1 => ?_)
  have hk := hk x1 e_x1
  refine lv_istore (lv' := [(4, .int x1), (0, .ref (ad 4)), (1, .int a1), (2, .int a2), (3, .int a3)]) hx hb d_S_placeSprite_8 hl (by decide) rfl (fun ls hl => ?_)
  refine lv_iload_n hx hb d_S_placeSprite_10 rfl (lv_at hl 4 rfl) ?_
  refine lv_bipush (v := 16) hx hb d_S_placeSprite_11 (by decide) ?_
  have hj1 : ∀ (H : Heap) (locs : List Loc) (ls : Array Slot) (x86 : Int32), wp_S_placeSprite_j1 M0 a1 a2 a3 x1 x86 Q → Wd D (ceC ad cA) A s H locs M0 → lv_has ls 11 [(0, .ref (ad 4)), (1, .int a1), (2, .int a2), (3, .int a3), (4, .int x1)] → W p l e rm_S_placeSprite s m args below meth c H locs 0 0 QQ (F0 m 39 ls [.int x86]) := by
    intro H locs ls x86 hk hw hl
    unfold wp_S_placeSprite_j1 at hk
    refine lv_istore (lv' := [(5, .int x86), (0, .ref (ad 4)), (1, .int a1), (2, .int a2), (3, .int a3), (4, .int x1)]) hx hb d_S_placeSprite_39 hl (by decide) rfl (fun ls hl => ?_)
    refine lv_aload_n hx hb d_S_placeSprite_41 rfl (lv_at hl 1 rfl) ?_
    refine g_S_sprites hC hw m_133 d_S_placeSprite_42 ?_
    refine lv_iload_n hx hb d_S_placeSprite_45 rfl (lv_at hl 2 rfl) ?_
    refine lv_iconst (v := 3) hx hb d_S_placeSprite_46 (by decide) ?_
    refine lv_iadd hx hb d_S_placeSprite_47 ?_
    obtain ⟨hin, hk⟩ := hk
    refine ld_10 hC hw hin rfl d_S_placeSprite_48 ?_
    refine lv_topi (fun x87 e_x87 => ?_)
    have hk := hk x87 e_x87
    refine lv_istore (lv' := [(6, .int x87), (5, .int x86), (0, .ref (ad 4)), (1, .int a1), (2, .int a2), (3, .int a3), (4, .int x1)]) hx hb d_S_placeSprite_49 hl (by decide) rfl (fun ls hl => ?_)
    refine lv_bipush (v := 16) hx hb d_S_placeSprite_51 (by decide) ?_
    refine lv_iload hx hb d_S_placeSprite_53 (lv_at hl 1 rfl) ?_
    refine lv_imul hx hb d_S_placeSprite_55 ?_
    refine lv_iconst (v := 2) hx hb d_S_placeSprite_56 (by decide) ?_
    refine lv_iload hx hb d_S_placeSprite_57 (lv_at hl 0 rfl) ?_
    refine lv_bipush (v := 64) hx hb d_S_placeSprite_59 (by decide) ?_
    refine lv_iand hx hb d_S_placeSprite_61 ?_
    have hj2 : ∀ (H : Heap) (locs : List Loc) (ls : Array Slot) (x129 : Int32), wp_S_placeSprite_j2 M0 x1 x86 x87 x129 Q → Wd D (ceC ad cA) A s H locs M0 → lv_has ls 11 [(0, .ref (ad 4)), (1, .int a1), (2, .int a2), (3, .int a3), (4, .int x1), (5, .int x86), (6, .int x87)] → W p l e rm_S_placeSprite s m args below meth c H locs 0 0 QQ (F0 m 74 ls [.int x129, .int (2 : Int32), .int ((16 : Int32) * x86)]) := by
      intro H locs ls x129 hk hw hl
      unfold wp_S_placeSprite_j2 at hk
      refine lv_imul hx hb d_S_placeSprite_74 ?_
      refine lv_iadd hx hb d_S_placeSprite_75 ?_
      refine lv_topi (fun x130 e_x130 => ?_)
      have hk := hk x130 e_x130
      refine lv_istore (lv' := [(7, .int x130), (0, .ref (ad 4)), (1, .int a1), (2, .int a2), (3, .int a3), (4, .int x1), (5, .int x86), (6, .int x87)]) hx hb d_S_placeSprite_76 hl (by decide) rfl (fun ls hl => ?_)
      refine lv_iconst (v := 0) hx hb d_S_placeSprite_78 (by decide) ?_
      refine lv_istore (lv' := [(8, .int (0 : Int32)), (7, .int x130), (0, .ref (ad 4)), (1, .int a1), (2, .int a2), (3, .int a3), (4, .int x1), (5, .int x86), (6, .int x87)]) hx hb d_S_placeSprite_79 hl (by decide) rfl (fun ls hl => ?_)
      have hl1 : ∀ (n : Nat) (H : Heap) (locs : List Loc) (ls : Array Slot) (x131 : Int32) (M132 : Mem), wp_S_placeSprite_l1 x1 x87 x130 Q n x131 M132 → Wd D (ceC ad cA) A s H locs M132 → lv_has ls 11 [(0, .ref (ad 4)), (1, .int a1), (2, .int a2), (3, .int a3), (4, .int x1), (5, .int x86), (6, .int x87), (7, .int x130), (8, .int x131)] → W p l e rm_S_placeSprite s m args below meth c H locs 0 0 QQ (F0 m 81 ls []) := by
        intro n
        induction n with
        | zero => intro H locs ls x131 M132 hk; exact False.elim hk
        | succ n1 ih1 =>
          intro H locs ls x131 M132 hk hw hl
          refine lv_iload hx hb d_S_placeSprite_81 (lv_at hl 8 rfl) ?_
          refine lv_bipush (v := 8) hx hb d_S_placeSprite_83 (by decide) ?_
          refine lv_icmp_ge (tgt := 197) hx hb d_S_placeSprite_85 (by decide) (fun hc => ?_) (fun hc => ?_)
          · have hk := hk.1 hc
            exact rt_v hQQ hx hb hr hlk hw ⟨rfl, hk⟩ d_S_placeSprite_197
          · have hk := hk.2 hc
            refine lv_iload hx hb d_S_placeSprite_88 (lv_at hl 4 rfl) ?_
            refine lv_bipush (v := 8) hx hb d_S_placeSprite_90 (by decide) ?_
            refine lv_isub hx hb d_S_placeSprite_92 ?_
            refine lv_iload hx hb d_S_placeSprite_93 (lv_at hl 8 rfl) ?_
            refine lv_iadd hx hb d_S_placeSprite_95 ?_
            refine lv_topi (fun x133 e_x133 => ?_)
            have hk := hk x133 e_x133
            refine lv_istore (lv' := [(9, .int x133), (0, .ref (ad 4)), (1, .int a1), (2, .int a2), (3, .int a3), (4, .int x1), (5, .int x86), (6, .int x87), (7, .int x130), (8, .int x131)]) hx hb d_S_placeSprite_96 hl (by decide) rfl (fun ls hl => ?_)
            refine lv_aload_n hx hb d_S_placeSprite_98 rfl (lv_at hl 1 rfl) ?_
            refine lv_iload hx hb d_S_placeSprite_99 (lv_at hl 8 rfl) ?_
            refine lv_iload hx hb d_S_placeSprite_101 (lv_at hl 7 rfl) ?_
            refine lv_bipush (v := 32) hx hb d_S_placeSprite_103 (by decide) ?_
            refine lv_iand hx hb d_S_placeSprite_105 ?_
            have hj3 : ∀ (H : Heap) (locs : List Loc) (ls : Array Slot) (x152 : Int32), wp_S_placeSprite_j3 x1 x87 x130 x131 M132 x133 (wp_S_placeSprite_l1 x1 x87 x130 Q n1) x152 Q → Wd D (ceC ad cA) A s H locs M132 → lv_has ls 11 [(0, .ref (ad 4)), (1, .int a1), (2, .int a2), (3, .int a3), (4, .int x1), (5, .int x86), (6, .int x87), (7, .int x130), (8, .int x131), (9, .int x133)] → W p l e rm_S_placeSprite s m args below meth c H locs 0 0 QQ (F0 m 119 ls [.int x152, .int x130, .ref (ad 4)]) := by
              intro H locs ls x152 hk hw hl
              unfold wp_S_placeSprite_j3 at hk
              refine cl_Vip (j := 4) (As := [.int x130, .int x152]) hC hw (ct_S_numberAt _ _ _ _ hk) m_134 mw_S_numberAt rfl ⟨rfl, rfl, Nat.le_of_ble_eq_true rfl, Nat.le_of_ble_eq_true rfl⟩ rfl rfl rfl hl.1 rfl (Nat.le_of_ble_eq_true rfl) d_S_placeSprite_119 (fun H locs x153 hk hw => ?_)
              refine lv_istore (lv' := [(10, .int x153), (0, .ref (ad 4)), (1, .int a1), (2, .int a2), (3, .int a3), (4, .int x1), (5, .int x86), (6, .int x87), (7, .int x130), (8, .int x131), (9, .int x133)]) hx hb d_S_placeSprite_122 hl (by decide) rfl (fun ls hl => ?_)
              refine lv_iload hx hb d_S_placeSprite_124 (lv_at hl 10 rfl) ?_
              have hj4 : ∀ (H : Heap) (locs : List Loc) (ls : Array Slot) (M162 : Mem), wp_S_placeSprite_j4 x131 (wp_S_placeSprite_l1 x1 x87 x130 Q n1) M162 Q → Wd D (ceC ad cA) A s H locs M162 → lv_has ls 11 [(0, .ref (ad 4)), (1, .int a1), (2, .int a2), (3, .int a3), (4, .int x1), (5, .int x86), (6, .int x87), (7, .int x130), (8, .int x131), (9, .int x133), (10, .int x153)] → W p l e rm_S_placeSprite s m args below meth c H locs 0 0 QQ (F0 m 191 ls []) := by
                intro H locs ls M162 hk hw hl
                unfold wp_S_placeSprite_j4 at hk
                obtain ⟨x163, e_x163⟩ : ∃ y : Int32, y = x131 + (1 : Int32) := ⟨_, rfl⟩
                have hk := hk x163 e_x163
                refine lv_iinc (v := x163) (lv' := [(8, .int x163), (0, .ref (ad 4)), (1, .int a1), (2, .int a2), (3, .int a3), (4, .int x1), (5, .int x86), (6, .int x87), (7, .int x130), (9, .int x133), (10, .int x153)]) hx hb d_S_placeSprite_191 hl (k := 8) rfl (by rw [e_x163]; rfl) (by decide) rfl (fun ls hl => ?_)
                refine lv_goto (tgt := 81) hx hb d_S_placeSprite_194 (by decide) ?_
                exact ih1 _ _ _ _ _ hk hw (lv_sub hl [1, 2, 3, 4, 5, 6, 7, 8, 0] rfl)
              refine lv_if_lt (tgt := 191) hx hb d_S_placeSprite_126 (by decide) (fun hc => ?_) (fun hc => ?_)
              · have hk := hk.1 hc
                exact hj4 _ _ _ _ hk hw (lv_sub hl [1, 2, 3, 4, 5, 6, 7, 8, 9, 10, 0] rfl)
              · have hk := hk.2 hc
                refine lv_iload hx hb d_S_placeSprite_129 (lv_at hl 10 rfl) ?_
                refine lv_sipush (v := 160) hx hb d_S_placeSprite_131 (by decide) ?_
                refine lv_icmp_ge (tgt := 191) hx hb d_S_placeSprite_134 (by decide) (fun hc => ?_) (fun hc => ?_)
                · have hk := hk.1 hc
                  exact hj4 _ _ _ _ hk hw (lv_sub hl [1, 2, 3, 4, 5, 6, 7, 8, 9, 10, 0] rfl)
                · have hk := hk.2 hc
                  refine lv_iload hx hb d_S_placeSprite_137 (lv_at hl 0 rfl) ?_
                  refine lv_if_eq (tgt := 191) hx hb d_S_placeSprite_139 (by decide) (fun hc => ?_) (fun hc => ?_)
                  · have hk := hk.1 hc
                    exact hj4 _ _ _ _ hk hw (lv_sub hl [1, 2, 3, 4, 5, 6, 7, 8, 9, 10, 0] rfl)
                  · have hk := hk.2 hc
                    refine lv_aload_n hx hb d_S_placeSprite_142 rfl (lv_at hl 1 rfl) ?_
                    refine g_S_aheadNumber hC hw m_135 d_S_placeSprite_143 ?_
                    refine lv_iload hx hb d_S_placeSprite_146 (lv_at hl 10 rfl) ?_
                    obtain ⟨hin, hk⟩ := hk
                    refine ld_14 hC hw hin rfl d_S_placeSprite_148 ?_
                    have hj5 : ∀ (H : Heap) (locs : List Loc) (ls : Array Slot), wp_S_placeSprite_j5 x1 x87 x131 M132 x133 x153 (wp_S_placeSprite_l1 x1 x87 x130 Q n1) Q → Wd D (ceC ad cA) A s H locs M132 → lv_has ls 11 [(0, .ref (ad 4)), (1, .int a1), (2, .int a2), (3, .int a3), (4, .int x1), (5, .int x86), (6, .int x87), (7, .int x130), (8, .int x131), (9, .int x133), (10, .int x153)] → W p l e rm_S_placeSprite s m args below meth c H locs 0 0 QQ (F0 m 164 ls []) := by
                      intro H locs ls  hk hw hl
                      unfold wp_S_placeSprite_j5 at hk
                      refine lv_aload_n hx hb d_S_placeSprite_164 rfl (lv_at hl 0 rfl) ?_
                      refine g_S_aheadNumber hC hw m_135 d_S_placeSprite_165 ?_
                      refine lv_iload hx hb d_S_placeSprite_168 (lv_at hl 9 rfl) ?_
                      refine lv_iload hx hb d_S_placeSprite_170 (lv_at hl 10 rfl) ?_
                      obtain ⟨hin, hk⟩ := hk
                      refine st_14 hC hw hin rfl d_S_placeSprite_172 (fun H locs M167 e_M167 hw => ?_)
                      have hk := hk M167 e_M167
                      refine lv_aload_n hx hb d_S_placeSprite_173 rfl (lv_at hl 0 rfl) ?_
                      refine g_S_aheadX hC hw m_136 d_S_placeSprite_174 ?_
                      refine lv_iload hx hb d_S_placeSprite_177 (lv_at hl 9 rfl) ?_
                      refine lv_iload hx hb d_S_placeSprite_179 (lv_at hl 4 rfl) ?_
                      obtain ⟨hin, hk⟩ := hk
                      refine st_15 hC hw hin rfl d_S_placeSprite_181 (fun H locs M168 e_M168 hw => ?_)
                      have hk := hk M168 e_M168
                      refine lv_aload_n hx hb d_S_placeSprite_182 rfl (lv_at hl 0 rfl) ?_
                      refine g_S_aheadFlags hC hw m_137 d_S_placeSprite_183 ?_
                      refine lv_iload hx hb d_S_placeSprite_186 (lv_at hl 9 rfl) ?_
                      refine lv_iload hx hb d_S_placeSprite_188 (lv_at hl 6 rfl) ?_
                      obtain ⟨hin, hk⟩ := hk
                      refine st_16 hC hw hin rfl d_S_placeSprite_190 (fun H locs M169 e_M169 hw => ?_)
                      have hk := hk M169 e_M169
                      exact hj4 _ _ _ _ hk hw (lv_sub hl [0, 1, 2, 3, 4, 5, 6, 7, 8, 9, 10] rfl)
                    refine lv_if_eq (tgt := 164) hx hb d_S_placeSprite_149 (by decide) (fun hc => ?_) (fun hc => ?_)
                    · have hk := hk.1 hc
                      exact hj5 _ _ _  hk hw (lv_sub hl [1, 2, 3, 4, 5, 6, 7, 8, 9, 10, 0] rfl)
                    · have hk := hk.2 hc
                      refine lv_iload hx hb d_S_placeSprite_152 (lv_at hl 5 rfl) ?_
                      refine lv_aload_n hx hb d_S_placeSprite_154 rfl (lv_at hl 1 rfl) ?_
                      refine g_S_aheadX hC hw m_136 d_S_placeSprite_155 ?_
                      refine lv_iload hx hb d_S_placeSprite_158 (lv_at hl 10 rfl) ?_
                      obtain ⟨hin, hk⟩ := hk
                      refine ld_15 hC hw hin rfl d_S_placeSprite_160 ?_
                      refine lv_icmp_ge (tgt := 191) hx hb d_S_placeSprite_161 (by decide) (fun hc => ?_) (fun hc => ?_)
                      · have hk := hk.1 hc
                        exact hj4 _ _ _ _ hk hw (lv_sub hl [1, 2, 3, 4, 5, 6, 7, 8, 9, 10, 0] rfl)
                      · have hk := hk.2 hc
                        exact hj5 _ _ _  hk hw (lv_sub hl [1, 2, 3, 4, 5, 6, 7, 8, 9, 10, 0] rfl)
            refine lv_if_eq (tgt := 114) hx hb d_S_placeSprite_106 (by decide) (fun hc => ?_) (fun hc => ?_)
            · have hk := hk.1 hc
              refine lv_bipush (v := 7) hx hb d_S_placeSprite_114 (by decide) ?_
              refine lv_iload hx hb d_S_placeSprite_116 (lv_at hl 9 rfl) ?_
              refine lv_isub hx hb d_S_placeSprite_118 ?_
              exact hj3 _ _ _ _ hk hw (lv_sub hl [1, 2, 3, 4, 5, 6, 7, 8, 9, 0] rfl)
            · have hk := hk.2 hc
              refine lv_iload hx hb d_S_placeSprite_109 (lv_at hl 9 rfl) ?_
              refine lv_goto (tgt := 119) hx hb d_S_placeSprite_111 (by decide) ?_
              exact hj3 _ _ _ _ hk hw (lv_sub hl [1, 2, 3, 4, 5, 6, 7, 8, 9, 0] rfl)
      obtain ⟨n, hk⟩ := hk
      exact hl1 n _ _ _ _ _ hk hw (lv_sub hl [2, 3, 4, 5, 6, 7, 8, 1, 0] rfl)
    refine lv_if_eq (tgt := 73) hx hb d_S_placeSprite_62 (by decide) (fun hc => ?_) (fun hc => ?_)
    · have hk := hk.1 hc
      refine lv_iload_n hx hb d_S_placeSprite_73 rfl (lv_at hl 4 rfl) ?_
      exact hj2 _ _ _ _ hk hw (lv_sub hl [2, 3, 4, 5, 6, 1, 0] rfl)
    · have hk := hk.2 hc
      refine lv_iload_n hx hb d_S_placeSprite_65 rfl (lv_at hl 5 rfl) ?_
      refine lv_iconst (v := 1) hx hb d_S_placeSprite_66 (by decide) ?_
      refine lv_isub hx hb d_S_placeSprite_67 ?_
      refine lv_iload_n hx hb d_S_placeSprite_68 rfl (lv_at hl 4 rfl) ?_
      refine lv_isub hx hb d_S_placeSprite_69 ?_
      refine lv_goto (tgt := 74) hx hb d_S_placeSprite_70 (by decide) ?_
      exact hj2 _ _ _ _ hk hw (lv_sub hl [2, 3, 4, 5, 6, 1, 0] rfl)
  refine lv_icmp_ne (tgt := 31) hx hb d_S_placeSprite_13 (by decide) (fun hc => ?_) (fun hc => ?_)
  · have hk := hk.1 hc
    refine lv_aload_n hx hb d_S_placeSprite_31 rfl (lv_at hl 1 rfl) ?_
    refine g_S_sprites hC hw m_133 d_S_placeSprite_32 ?_
    refine lv_iload_n hx hb d_S_placeSprite_35 rfl (lv_at hl 2 rfl) ?_
    refine lv_iconst (v := 2) hx hb d_S_placeSprite_36 (by decide) ?_
    refine lv_iadd hx hb d_S_placeSprite_37 ?_
    obtain ⟨hin, hk⟩ := hk
    refine ld_10 hC hw hin rfl d_S_placeSprite_38 ?_
    exact hj1 _ _ _ _ hk hw (lv_sub hl [1, 2, 3, 4, 0] rfl)
  · have hk := hk.2 hc
    refine lv_aload_n hx hb d_S_placeSprite_16 rfl (lv_at hl 1 rfl) ?_
    refine g_S_sprites hC hw m_133 d_S_placeSprite_17 ?_
    refine lv_iload_n hx hb d_S_placeSprite_20 rfl (lv_at hl 2 rfl) ?_
    refine lv_iconst (v := 2) hx hb d_S_placeSprite_21 (by decide) ?_
    refine lv_iadd hx hb d_S_placeSprite_22 ?_
    obtain ⟨hin, hk⟩ := hk
    refine ld_10 hC hw hin rfl d_S_placeSprite_23 ?_
    refine lv_sipush (v := 254) hx hb d_S_placeSprite_24 (by decide) ?_
    refine lv_iand hx hb d_S_placeSprite_27 ?_
    refine lv_goto (tgt := 39) hx hb d_S_placeSprite_28 (by decide) ?_
    exact hj1 _ _ _ _ hk hw (lv_sub hl [1, 2, 3, 4, 0] rfl)
set_option maxHeartbeats 4000000 in
set_option maxRecDepth 100000 in
theorem ct_S_chooseSprites {l : Launch} {D : va_G} {cA : ClassId} {ad tb : Nat → Nat} (M0 : Mem) (a1 : Int32) (Q : Mem → Prop) (hk : wp_S_chooseSprites M0 a1 Q) : Ct l y_S_chooseSprites ws_S_chooseSprites rm_S_chooseSprites D (ceC ad cA) cA tb [.ref (ad 4), .int a1] M0 (QV Q) := by
  refine Ct.of (own := "TileConsole$Screen") (cc := b_S_chooseSprites) (maxL := 6) (ret := none) ceC_fix (by decide) rfl rfl (Nat.le_of_ble_eq_true rfl) ?_
  intro p e s m args below meth c A QQ ls H locs hQQ hC hr hlk hw hl
  have hx := hC.1.1
  have hb := hC.1.2.1
  unfold wp_S_chooseSprites at hk
  have hl : lv_has ls 6 [(0, .ref (ad 4)), (1, .int a1)] := hl
  refine lv_aload_n hx hb d_S_chooseSprites_0 rfl (lv_at hl 0 rfl) ?_
  refine lv_iconst (v := 4) hx hb d_S_chooseSprites_1 (by decide) ?_
  refine cl_Vip (j := 4) (As := [.int (4 : Int32)]) hC hw (ct_S_has _ _ _ hk) m_138 mw_S_has rfl ⟨rfl, rfl, Nat.le_of_ble_eq_true rfl, Nat.le_of_ble_eq_true rfl⟩ rfl rfl rfl hl.1 rfl (Nat.le_of_ble_eq_true rfl) d_S_chooseSprites_2 (fun H locs x1 hk hw => ?_)
  have hj1 : ∀ (H : Heap) (locs : List Loc) (ls : Array Slot) (x28 : Int32), wp_S_chooseSprites_j1 M0 a1 x28 Q → Wd D (ceC ad cA) A s H locs M0 → lv_has ls 6 [(0, .ref (ad 4)), (1, .int a1)] → W p l e rm_S_chooseSprites s m args below meth c H locs 0 0 QQ (F0 m 15 ls [.int x28]) := by
    intro H locs ls x28 hk hw hl
    unfold wp_S_chooseSprites_j1 at hk
    refine lv_istore_n (lv' := [(2, .int x28), (0, .ref (ad 4)), (1, .int a1)]) hx hb d_S_chooseSprites_15 rfl hl (by decide) rfl (fun ls hl => ?_)
    refine lv_iconst (v := 0) hx hb d_S_chooseSprites_16 (by decide) ?_
    refine lv_istore_n (lv' := [(3, .int (0 : Int32)), (2, .int x28), (0, .ref (ad 4)), (1, .int a1)]) hx hb d_S_chooseSprites_17 rfl hl (by decide) rfl (fun ls hl => ?_)
    refine lv_iconst (v := 0) hx hb d_S_chooseSprites_18 (by decide) ?_
    refine lv_istore (lv' := [(4, .int (0 : Int32)), (3, .int (0 : Int32)), (2, .int x28), (0, .ref (ad 4)), (1, .int a1)]) hx hb d_S_chooseSprites_19 hl (by decide) rfl (fun ls hl => ?_)
    have hl1 : ∀ (n : Nat) (H : Heap) (locs : List Loc) (ls : Array Slot) (x29 : Int32) (x30 : Int32) (M31 : Mem), wp_S_chooseSprites_l1 a1 x28 Q n x29 x30 M31 → Wd D (ceC ad cA) A s H locs M31 → lv_has ls 6 [(0, .ref (ad 4)), (1, .int a1), (2, .int x28), (3, .int x29), (4, .int x30)] → W p l e rm_S_chooseSprites s m args below meth c H locs 0 0 QQ (F0 m 21 ls []) := by
      intro n
      induction n with
      | zero => intro H locs ls x29 x30 M31 hk; exact False.elim hk
      | succ n1 ih1 =>
        intro H locs ls x29 x30 M31 hk hw hl
        refine lv_iload hx hb d_S_chooseSprites_21 (lv_at hl 4 rfl) ?_
        refine lv_bipush (v := 40) hx hb d_S_chooseSprites_23 (by decide) ?_
        have hj2 : ∀ (H : Heap) (locs : List Loc) (ls : Array Slot), wp_S_chooseSprites_j2 M31 Q → Wd D (ceC ad cA) A s H locs M31 → lv_has ls 6 [(0, .ref (ad 4)), (1, .int a1), (2, .int x28), (3, .int x29), (4, .int x30)] → W p l e rm_S_chooseSprites s m args below meth c H locs 0 0 QQ (F0 m 81 ls []) := by
          intro H locs ls  hk hw hl
          unfold wp_S_chooseSprites_j2 at hk
          exact rt_v hQQ hx hb hr hlk hw ⟨rfl, hk⟩ d_S_chooseSprites_81
        refine lv_icmp_ge (tgt := 81) hx hb d_S_chooseSprites_25 (by decide) (fun hc => ?_) (fun hc => ?_)
        · have hk := hk.1 hc
          exact hj2 _ _ _  hk hw (lv_sub hl [0, 1, 2, 3, 4] rfl)
        · have hk := hk.2 hc
          refine lv_iload_n hx hb d_S_chooseSprites_28 rfl (lv_at hl 3 rfl) ?_
          refine lv_bipush (v := 10) hx hb d_S_chooseSprites_29 (by decide) ?_
          refine lv_icmp_ge (tgt := 81) hx hb d_S_chooseSprites_31 (by decide) (fun hc => ?_) (fun hc => ?_)
          · have hk := hk.1 hc
            exact hj2 _ _ _  hk hw (lv_sub hl [0, 1, 2, 3, 4] rfl)
          · have hk := hk.2 hc
            refine lv_iload_n hx hb d_S_chooseSprites_34 rfl (lv_at hl 1 rfl) ?_
            refine lv_aload_n hx hb d_S_chooseSprites_35 rfl (lv_at hl 0 rfl) ?_
            refine g_S_sprites hC hw m_133 d_S_chooseSprites_36 ?_
            refine lv_iconst (v := 4) hx hb d_S_chooseSprites_39 (by decide) ?_
            refine lv_iload hx hb d_S_chooseSprites_40 (lv_at hl 4 rfl) ?_
            refine lv_imul hx hb d_S_chooseSprites_42 ?_
            obtain ⟨hin, hk⟩ := hk
            refine ld_10 hC hw hin rfl d_S_chooseSprites_43 ?_
            refine lv_bipush (v := 16) hx hb d_S_chooseSprites_44 (by decide) ?_
            refine lv_isub hx hb d_S_chooseSprites_46 ?_
            refine lv_isub hx hb d_S_chooseSprites_47 ?_
            refine lv_topi (fun x43 e_x43 => ?_)
            have hk := hk x43 e_x43
            refine lv_istore (lv' := [(5, .int x43), (0, .ref (ad 4)), (1, .int a1), (2, .int x28), (3, .int x29), (4, .int x30)]) hx hb d_S_chooseSprites_48 hl (by decide) rfl (fun ls hl => ?_)
            refine lv_iload hx hb d_S_chooseSprites_50 (lv_at hl 0 rfl) ?_
            have hj3 : ∀ (H : Heap) (locs : List Loc) (ls : Array Slot) (x49 : Int32) (M50 : Mem), wp_S_chooseSprites_j3 x30 (wp_S_chooseSprites_l1 a1 x28 Q n1) x49 M50 Q → Wd D (ceC ad cA) A s H locs M50 → lv_has ls 6 [(0, .ref (ad 4)), (1, .int a1), (2, .int x28), (3, .int x49), (4, .int x30), (5, .int x43)] → W p l e rm_S_chooseSprites s m args below meth c H locs 0 0 QQ (F0 m 75 ls []) := by
              intro H locs ls x49 M50 hk hw hl
              unfold wp_S_chooseSprites_j3 at hk
              obtain ⟨x51, e_x51⟩ : ∃ y : Int32, y = x30 + (1 : Int32) := ⟨_, rfl⟩
              have hk := hk x51 e_x51
              refine lv_iinc (v := x51) (lv' := [(4, .int x51), (0, .ref (ad 4)), (1, .int a1), (2, .int x28), (3, .int x49), (5, .int x43)]) hx hb d_S_chooseSprites_75 hl (k := 4) rfl (by rw [e_x51]; rfl) (by decide) rfl (fun ls hl => ?_)
              refine lv_goto (tgt := 21) hx hb d_S_chooseSprites_78 (by decide) ?_
              exact ih1 _ _ _ _ _ _ hk hw (lv_sub hl [1, 2, 3, 4, 0] rfl)
            refine lv_if_lt (tgt := 75) hx hb d_S_chooseSprites_52 (by decide) (fun hc => ?_) (fun hc => ?_)
            · have hk := hk.1 hc
              exact hj3 _ _ _ _ _ hk hw (lv_sub hl [1, 2, 3, 4, 5, 0] rfl)
            · have hk := hk.2 hc
              refine lv_iload hx hb d_S_chooseSprites_55 (lv_at hl 0 rfl) ?_
              refine lv_iload_n hx hb d_S_chooseSprites_57 rfl (lv_at hl 3 rfl) ?_
              refine lv_icmp_ge (tgt := 75) hx hb d_S_chooseSprites_58 (by decide) (fun hc => ?_) (fun hc => ?_)
              · have hk := hk.1 hc
                exact hj3 _ _ _ _ _ hk hw (lv_sub hl [1, 2, 3, 4, 5, 0] rfl)
              · have hk := hk.2 hc
                refine lv_aload_n hx hb d_S_chooseSprites_61 rfl (lv_at hl 1 rfl) ?_
                refine lv_iconst (v := 4) hx hb d_S_chooseSprites_62 (by decide) ?_
                refine lv_iload hx hb d_S_chooseSprites_63 (lv_at hl 5 rfl) ?_
                refine lv_imul hx hb d_S_chooseSprites_65 ?_
                refine lv_iload hx hb d_S_chooseSprites_66 (lv_at hl 0 rfl) ?_
                refine lv_iload_n hx hb d_S_chooseSprites_68 rfl (lv_at hl 3 rfl) ?_
                refine cl_Vv (j := 4) (As := [.int ((4 : Int32) * x30), .int x43, .int x28]) hC hw (ct_S_placeSprite _ _ _ _ _ hk) m_139 mw_S_placeSprite rfl ⟨rfl, rfl, Nat.le_of_ble_eq_true rfl, Nat.le_of_ble_eq_true rfl⟩ rfl rfl rfl hl.1 rfl (Nat.le_of_ble_eq_true rfl) d_S_chooseSprites_69 (fun H locs M52 hk hw => ?_)
                obtain ⟨x53, e_x53⟩ : ∃ y : Int32, y = x29 + (1 : Int32) := ⟨_, rfl⟩
                have hk := hk x53 e_x53
                refine lv_iinc (v := x53) (lv' := [(3, .int x53), (5, .int x43), (0, .ref (ad 4)), (1, .int a1), (2, .int x28), (4, .int x30)]) hx hb d_S_chooseSprites_72 hl (k := 4) rfl (by rw [e_x53]; rfl) (by decide) rfl (fun ls hl => ?_)
                exact hj3 _ _ _ _ _ hk hw (lv_sub hl [2, 3, 4, 0, 5, 1] rfl)
    obtain ⟨n, hk⟩ := hk
    exact hl1 n _ _ _ _ _ _ hk hw (lv_sub hl [3, 4, 2, 1, 0] rfl)
  refine lv_if_eq (tgt := 13) hx hb d_S_chooseSprites_5 (by decide) (fun hc => ?_) (fun hc => ?_)
  · have hk := hk.1 hc
    refine lv_bipush (v := 8) hx hb d_S_chooseSprites_13 (by decide) ?_
    exact hj1 _ _ _ _ hk hw (lv_sub hl [0, 1] rfl)
  · have hk := hk.2 hc
    refine lv_bipush (v := 16) hx hb d_S_chooseSprites_8 (by decide) ?_
    refine lv_goto (tgt := 15) hx hb d_S_chooseSprites_10 (by decide) ?_
    exact hj1 _ _ _ _ hk hw (lv_sub hl [0, 1] rfl)
set_option maxHeartbeats 4000000 in
set_option maxRecDepth 100000 in
theorem ct_S_mapNumber {l : Launch} {D : va_G} {cA : ClassId} {ad tb : Nat → Nat} (M0 : Mem) (a1 : Int32) (a2 : Int32) (a3 : Int32) (Q : Int32 → Prop) (hk : wp_S_mapNumber M0 a1 a2 a3 Q) : Ct l y_S_mapNumber ws_S_mapNumber rm_S_mapNumber D (ceC ad cA) cA tb [.ref (ad 4), .int a1, .int a2, .int a3] M0 (QIp M0 Q) := by
  refine Ct.of (own := "TileConsole$Screen") (cc := b_S_mapNumber) (maxL := 6) (ret := (some .int)) ceC_fix (by decide) rfl rfl (Nat.le_of_ble_eq_true rfl) ?_
  intro p e s m args below meth c A QQ ls H locs hQQ hC hr hlk hw hl
  have hx := hC.1.1
  have hb := hC.1.2.1
  unfold wp_S_mapNumber at hk
  have hl : lv_has ls 6 [(0, .ref (ad 4)), (1, .int a1), (2, .int a2), (3, .int a3)] := hl
  refine lv_aload_n hx hb d_S_mapNumber_0 rfl (lv_at hl 0 rfl) ?_
  refine g_S_video hC hw m_132 d_S_mapNumber_1 ?_
  refine lv_iload_n hx hb d_S_mapNumber_4 rfl (lv_at hl 1 rfl) ?_
  have hj1 : ∀ (H : Heap) (locs : List Loc) (ls : Array Slot) (x8 : Int32), wp_S_mapNumber_j1 M0 a2 a3 x8 Q → Wd D (ceC ad cA) A s H locs M0 → lv_has ls 6 [(0, .ref (ad 4)), (1, .int a1), (2, .int a2), (3, .int a3)] → W p l e rm_S_mapNumber s m args below meth c H locs 0 0 QQ (F0 m 17 ls [.int x8, .ref (ad 9)]) := by
    intro H locs ls x8 hk hw hl
    unfold wp_S_mapNumber_j1 at hk
    refine lv_bipush (v := 32) hx hb d_S_mapNumber_17 (by decide) ?_
    refine lv_iload_n hx hb d_S_mapNumber_19 rfl (lv_at hl 3 rfl) ?_
    refine lv_iconst (v := 3) hx hb d_S_mapNumber_20 (by decide) ?_
    refine lv_ishr hx hb d_S_mapNumber_21 ?_
    refine lv_bipush (v := 31) hx hb d_S_mapNumber_22 (by decide) ?_
    refine lv_iand hx hb d_S_mapNumber_24 ?_
    refine lv_imul hx hb d_S_mapNumber_25 ?_
    refine lv_iadd hx hb d_S_mapNumber_26 ?_
    refine lv_iload_n hx hb d_S_mapNumber_27 rfl (lv_at hl 2 rfl) ?_
    refine lv_iconst (v := 3) hx hb d_S_mapNumber_28 (by decide) ?_
    refine lv_ishr hx hb d_S_mapNumber_29 ?_
    refine lv_bipush (v := 31) hx hb d_S_mapNumber_30 (by decide) ?_
    refine lv_iand hx hb d_S_mapNumber_32 ?_
    refine lv_iadd hx hb d_S_mapNumber_33 ?_
    obtain ⟨hin, hk⟩ := hk
    refine ld_9 hC hw hin rfl d_S_mapNumber_34 ?_
    refine lv_topi (fun x9 e_x9 => ?_)
    have hk := hk x9 e_x9
    refine lv_istore (lv' := [(4, .int x9), (0, .ref (ad 4)), (1, .int a1), (2, .int a2), (3, .int a3)]) hx hb d_S_mapNumber_35 hl (by decide) rfl (fun ls hl => ?_)
    refine lv_aload_n hx hb d_S_mapNumber_37 rfl (lv_at hl 1 rfl) ?_
    refine lv_bipush (v := 16) hx hb d_S_mapNumber_38 (by decide) ?_
    refine cl_Vip (j := 4) (As := [.int (16 : Int32)]) hC hw (ct_S_has _ _ _ hk) m_138 mw_S_has rfl ⟨rfl, rfl, Nat.le_of_ble_eq_true rfl, Nat.le_of_ble_eq_true rfl⟩ rfl rfl rfl hl.1 rfl (Nat.le_of_ble_eq_true rfl) d_S_mapNumber_40 (fun H locs x10 hk hw => ?_)
    have hj2 : ∀ (H : Heap) (locs : List Loc) (ls : Array Slot) (x13 : Int32), wp_S_mapNumber_j2 M0 a2 a3 x13 Q → Wd D (ceC ad cA) A s H locs M0 → lv_has ls 6 [(0, .ref (ad 4)), (1, .int a1), (2, .int a2), (3, .int a3), (4, .int x9)] → W p l e rm_S_mapNumber s m args below meth c H locs 0 0 QQ (F0 m 64 ls [.int x13]) := by
      intro H locs ls x13 hk hw hl
      unfold wp_S_mapNumber_j2 at hk
      refine lv_istore (lv' := [(5, .int x13), (0, .ref (ad 4)), (1, .int a1), (2, .int a2), (3, .int a3), (4, .int x9)]) hx hb d_S_mapNumber_64 hl (by decide) rfl (fun ls hl => ?_)
      refine lv_aload_n hx hb d_S_mapNumber_66 rfl (lv_at hl 1 rfl) ?_
      refine lv_iload hx hb d_S_mapNumber_67 (lv_at hl 0 rfl) ?_
      refine lv_iconst (v := 2) hx hb d_S_mapNumber_69 (by decide) ?_
      refine lv_iload_n hx hb d_S_mapNumber_70 rfl (lv_at hl 4 rfl) ?_
      refine lv_bipush (v := 7) hx hb d_S_mapNumber_71 (by decide) ?_
      refine lv_iand hx hb d_S_mapNumber_73 ?_
      refine lv_imul hx hb d_S_mapNumber_74 ?_
      refine lv_iadd hx hb d_S_mapNumber_75 ?_
      refine lv_bipush (v := 7) hx hb d_S_mapNumber_76 (by decide) ?_
      refine lv_iload_n hx hb d_S_mapNumber_78 rfl (lv_at hl 3 rfl) ?_
      refine lv_bipush (v := 7) hx hb d_S_mapNumber_79 (by decide) ?_
      refine lv_iand hx hb d_S_mapNumber_81 ?_
      refine lv_isub hx hb d_S_mapNumber_82 ?_
      refine cl_Vip (j := 4) (As := [.int (x13 + ((2 : Int32) * (a3 &&& (7 : Int32)))), .int ((7 : Int32) - (a2 &&& (7 : Int32)))]) hC hw (ct_S_numberAt _ _ _ _ hk) m_134 mw_S_numberAt rfl ⟨rfl, rfl, Nat.le_of_ble_eq_true rfl, Nat.le_of_ble_eq_true rfl⟩ rfl rfl rfl hl.1 rfl (Nat.le_of_ble_eq_true rfl) d_S_mapNumber_83 (fun H locs x14 hk hw => ?_)
      exact rt_i hQQ hx hb hr hlk hw ⟨rfl, _, rfl, hk⟩ d_S_mapNumber_86
    refine lv_if_eq (tgt := 54) hx hb d_S_mapNumber_43 (by decide) (fun hc => ?_) (fun hc => ?_)
    · have hk := hk.1 hc
      refine lv_sipush (v := 4096) hx hb d_S_mapNumber_54 (by decide) ?_
      refine lv_bipush (v := 16) hx hb d_S_mapNumber_57 (by decide) ?_
      refine lv_iload hx hb d_S_mapNumber_59 (lv_at hl 0 rfl) ?_
      refine lv_i2b hx hb d_S_mapNumber_61 rfl ?_
      refine lv_imul hx hb d_S_mapNumber_62 ?_
      refine lv_iadd hx hb d_S_mapNumber_63 ?_
      exact hj2 _ _ _ _ hk hw (lv_sub hl [1, 2, 3, 4, 0] rfl)
    · have hk := hk.2 hc
      refine lv_bipush (v := 16) hx hb d_S_mapNumber_46 (by decide) ?_
      refine lv_iload hx hb d_S_mapNumber_48 (lv_at hl 0 rfl) ?_
      refine lv_imul hx hb d_S_mapNumber_50 ?_
      refine lv_goto (tgt := 64) hx hb d_S_mapNumber_51 (by decide) ?_
      exact hj2 _ _ _ _ hk hw (lv_sub hl [1, 2, 3, 4, 0] rfl)
  refine lv_if_eq (tgt := 14) hx hb d_S_mapNumber_5 (by decide) (fun hc => ?_) (fun hc => ?_)
  · have hk := hk.1 hc
    refine lv_sipush (v := 6144) hx hb d_S_mapNumber_14 (by decide) ?_
    exact hj1 _ _ _ _ hk hw (lv_sub hl [0, 1, 2, 3] rfl)
  · have hk := hk.2 hc
    refine lv_sipush (v := 7168) hx hb d_S_mapNumber_8 (by decide) ?_
    refine lv_goto (tgt := 17) hx hb d_S_mapNumber_11 (by decide) ?_
    exact hj1 _ _ _ _ hk hw (lv_sub hl [0, 1, 2, 3] rfl)
set_option maxHeartbeats 4000000 in
set_option maxRecDepth 100000 in
theorem ct_S_backgroundNumber {l : Launch} {D : va_G} {cA : ClassId} {ad tb : Nat → Nat} (M0 : Mem) (a1 : Int32) (a2 : Int32) (Q : Int32 → Prop) (hk : wp_S_backgroundNumber M0 a1 a2 Q) : Ct l y_S_backgroundNumber ws_S_backgroundNumber rm_S_backgroundNumber D (ceC ad cA) cA tb [.ref (ad 4), .int a1, .int a2] M0 (QIp M0 Q) := by
  refine Ct.of (own := "TileConsole$Screen") (cc := b_S_backgroundNumber) (maxL := 5) (ret := (some .int)) ceC_fix (by decide) rfl rfl (Nat.le_of_ble_eq_true rfl) ?_
  intro p e s m args below meth c A QQ ls H locs hQQ hC hr hlk hw hl
  have hx := hC.1.1
  have hb := hC.1.2.1
  unfold wp_S_backgroundNumber at hk
  have hl : lv_has ls 5 [(0, .ref (ad 4)), (1, .int a1), (2, .int a2)] := hl
  refine lv_aload_n hx hb d_S_backgroundNumber_0 rfl (lv_at hl 0 rfl) ?_
  refine lv_iconst (v := 1) hx hb d_S_backgroundNumber_1 (by decide) ?_
  refine cl_Vip (j := 4) (As := [.int (1 : Int32)]) hC hw (ct_S_has _ _ _ hk) m_138 mw_S_has rfl ⟨rfl, rfl, Nat.le_of_ble_eq_true rfl, Nat.le_of_ble_eq_true rfl⟩ rfl rfl rfl hl.1 rfl (Nat.le_of_ble_eq_true rfl) d_S_backgroundNumber_2 (fun H locs x1 hk hw => ?_)
  refine lv_if_ne (tgt := 10) hx hb d_S_backgroundNumber_5 (by decide) (fun hc => ?_) (fun hc => ?_)
  · have hk := hk.1 hc
    refine lv_aload_n hx hb d_S_backgroundNumber_10 rfl (lv_at hl 0 rfl) ?_
    refine g_S_ports hC hw m_131 d_S_backgroundNumber_11 ?_
    refine lv_bipush (v := 75) hx hb d_S_backgroundNumber_14 (by decide) ?_
    refine ld_8 (k := 75) hC hw (vin_lit rfl) (by decide) d_S_backgroundNumber_16 ?_
    refine lv_topi (fun x2 e_x2 => ?_)
    have hk := hk x2 e_x2
    refine lv_istore_n (lv' := [(3, .int x2), (0, .ref (ad 4)), (1, .int a1), (2, .int a2)]) hx hb d_S_backgroundNumber_17 rfl hl (by decide) rfl (fun ls hl => ?_)
    refine lv_aload_n hx hb d_S_backgroundNumber_18 rfl (lv_at hl 1 rfl) ?_
    refine g_S_ports hC hw m_131 d_S_backgroundNumber_19 ?_
    refine lv_bipush (v := 74) hx hb d_S_backgroundNumber_22 (by decide) ?_
    refine ld_8 (k := 74) hC hw (vin_lit rfl) (by decide) d_S_backgroundNumber_24 ?_
    refine lv_topi (fun x3 e_x3 => ?_)
    have hk := hk x3 e_x3
    refine lv_istore (lv' := [(4, .int x3), (3, .int x2), (0, .ref (ad 4)), (1, .int a1), (2, .int a2)]) hx hb d_S_backgroundNumber_25 hl (by decide) rfl (fun ls hl => ?_)
    refine lv_aload_n hx hb d_S_backgroundNumber_27 rfl (lv_at hl 2 rfl) ?_
    refine lv_bipush (v := 32) hx hb d_S_backgroundNumber_28 (by decide) ?_
    refine cl_Vip (j := 4) (As := [.int (32 : Int32)]) hC hw (ct_S_has _ _ _ hk) m_138 mw_S_has rfl ⟨rfl, rfl, Nat.le_of_ble_eq_true rfl, Nat.le_of_ble_eq_true rfl⟩ rfl rfl rfl hl.1 rfl (Nat.le_of_ble_eq_true rfl) d_S_backgroundNumber_30 (fun H locs x4 hk hw => ?_)
    have hj1 : ∀ (H : Heap) (locs : List Loc) (ls : Array Slot), wp_S_backgroundNumber_j1 M0 a1 a2 Q → Wd D (ceC ad cA) A s H locs M0 → lv_has ls 5 [(0, .ref (ad 4)), (1, .int a1), (2, .int a2), (3, .int x2), (4, .int x3)] → W p l e rm_S_backgroundNumber s m args below meth c H locs 0 0 QQ (F0 m 71 ls []) := by
      intro H locs ls  hk hw hl
      unfold wp_S_backgroundNumber_j1 at hk
      refine lv_aload_n hx hb d_S_backgroundNumber_71 rfl (lv_at hl 0 rfl) ?_
      refine lv_aload_n hx hb d_S_backgroundNumber_72 rfl (lv_at hl 0 rfl) ?_
      refine lv_bipush (v := 8) hx hb d_S_backgroundNumber_73 (by decide) ?_
      refine cl_Vip (j := 4) (As := [.int (8 : Int32)]) hC hw (ct_S_has _ _ _ hk) m_138 mw_S_has rfl ⟨rfl, rfl, Nat.le_of_ble_eq_true rfl, Nat.le_of_ble_eq_true rfl⟩ rfl rfl rfl hl.1 rfl (Nat.le_of_ble_eq_true rfl) d_S_backgroundNumber_75 (fun H locs x9 hk hw => ?_)
      refine lv_iload_n hx hb d_S_backgroundNumber_78 rfl (lv_at hl 1 rfl) ?_
      refine lv_aload_n hx hb d_S_backgroundNumber_79 rfl (lv_at hl 0 rfl) ?_
      refine g_S_ports hC hw m_131 d_S_backgroundNumber_80 ?_
      refine lv_bipush (v := 67) hx hb d_S_backgroundNumber_83 (by decide) ?_
      refine ld_8 (k := 67) hC hw (vin_lit rfl) (by decide) d_S_backgroundNumber_85 ?_
      refine lv_iadd hx hb d_S_backgroundNumber_86 ?_
      refine lv_sipush (v := 255) hx hb d_S_backgroundNumber_87 (by decide) ?_
      refine lv_iand hx hb d_S_backgroundNumber_90 ?_
      refine lv_iload_n hx hb d_S_backgroundNumber_91 rfl (lv_at hl 2 rfl) ?_
      refine lv_aload_n hx hb d_S_backgroundNumber_92 rfl (lv_at hl 0 rfl) ?_
      refine g_S_ports hC hw m_131 d_S_backgroundNumber_93 ?_
      refine lv_bipush (v := 66) hx hb d_S_backgroundNumber_96 (by decide) ?_
      refine ld_8 (k := 66) hC hw (vin_lit rfl) (by decide) d_S_backgroundNumber_98 ?_
      refine lv_iadd hx hb d_S_backgroundNumber_99 ?_
      refine lv_sipush (v := 255) hx hb d_S_backgroundNumber_100 (by decide) ?_
      refine lv_iand hx hb d_S_backgroundNumber_103 ?_
      refine cl_Vip (j := 4) (As := [.int x9, .int ((a1 + (M0 8 67)) &&& (255 : Int32)), .int ((a2 + (M0 8 66)) &&& (255 : Int32))]) hC hw (ct_S_mapNumber _ _ _ _ _ hk) m_140 mw_S_mapNumber rfl ⟨rfl, rfl, Nat.le_of_ble_eq_true rfl, Nat.le_of_ble_eq_true rfl⟩ rfl rfl rfl hl.1 rfl (Nat.le_of_ble_eq_true rfl) d_S_backgroundNumber_104 (fun H locs x10 hk hw => ?_)
      exact rt_i hQQ hx hb hr hlk hw ⟨rfl, _, rfl, hk⟩ d_S_backgroundNumber_107
    refine lv_if_eq (tgt := 71) hx hb d_S_backgroundNumber_33 (by decide) (fun hc => ?_) (fun hc => ?_)
    · have hk := hk.1 hc
      exact hj1 _ _ _  hk hw (lv_sub hl [2, 3, 4, 1, 0] rfl)
    · have hk := hk.2 hc
      refine lv_iload_n hx hb d_S_backgroundNumber_36 rfl (lv_at hl 4 rfl) ?_
      refine lv_iload hx hb d_S_backgroundNumber_37 (lv_at hl 0 rfl) ?_
      refine lv_icmp_lt (tgt := 71) hx hb d_S_backgroundNumber_39 (by decide) (fun hc => ?_) (fun hc => ?_)
      · have hk := hk.1 hc
        exact hj1 _ _ _  hk hw (lv_sub hl [2, 3, 4, 1, 0] rfl)
      · have hk := hk.2 hc
        refine lv_iload_n hx hb d_S_backgroundNumber_42 rfl (lv_at hl 3 rfl) ?_
        refine lv_bipush (v := 7) hx hb d_S_backgroundNumber_43 (by decide) ?_
        refine lv_iadd hx hb d_S_backgroundNumber_45 ?_
        refine lv_iload_n hx hb d_S_backgroundNumber_46 rfl (lv_at hl 1 rfl) ?_
        refine lv_icmp_lt (tgt := 71) hx hb d_S_backgroundNumber_47 (by decide) (fun hc => ?_) (fun hc => ?_)
        · have hk := hk.1 hc
          exact hj1 _ _ _  hk hw (lv_sub hl [2, 3, 4, 1, 0] rfl)
        · have hk := hk.2 hc
          refine lv_aload_n hx hb d_S_backgroundNumber_50 rfl (lv_at hl 2 rfl) ?_
          refine lv_aload_n hx hb d_S_backgroundNumber_51 rfl (lv_at hl 2 rfl) ?_
          refine lv_bipush (v := 64) hx hb d_S_backgroundNumber_52 (by decide) ?_
          refine cl_Vip (j := 4) (As := [.int (64 : Int32)]) hC hw (ct_S_has _ _ _ hk) m_138 mw_S_has rfl ⟨rfl, rfl, Nat.le_of_ble_eq_true rfl, Nat.le_of_ble_eq_true rfl⟩ rfl rfl rfl hl.1 rfl (Nat.le_of_ble_eq_true rfl) d_S_backgroundNumber_54 (fun H locs x11 hk hw => ?_)
          refine lv_iload_n hx hb d_S_backgroundNumber_57 rfl (lv_at hl 3 rfl) ?_
          refine lv_bipush (v := 7) hx hb d_S_backgroundNumber_58 (by decide) ?_
          refine lv_iadd hx hb d_S_backgroundNumber_60 ?_
          refine lv_iload_n hx hb d_S_backgroundNumber_61 rfl (lv_at hl 1 rfl) ?_
          refine lv_isub hx hb d_S_backgroundNumber_62 ?_
          refine lv_iload_n hx hb d_S_backgroundNumber_63 rfl (lv_at hl 4 rfl) ?_
          refine lv_iload hx hb d_S_backgroundNumber_64 (lv_at hl 0 rfl) ?_
          refine lv_isub hx hb d_S_backgroundNumber_66 ?_
          refine cl_Vip (j := 4) (As := [.int x11, .int ((a1 + (7 : Int32)) - x2), .int (a2 - x3)]) hC hw (ct_S_mapNumber _ _ _ _ _ hk) m_140 mw_S_mapNumber rfl ⟨rfl, rfl, Nat.le_of_ble_eq_true rfl, Nat.le_of_ble_eq_true rfl⟩ rfl rfl rfl hl.1 rfl (Nat.le_of_ble_eq_true rfl) d_S_backgroundNumber_67 (fun H locs x12 hk hw => ?_)
          exact rt_i hQQ hx hb hr hlk hw ⟨rfl, _, rfl, hk⟩ d_S_backgroundNumber_70
  · have hk := hk.2 hc
    refine lv_iconst (v := 0) hx hb d_S_backgroundNumber_8 (by decide) ?_
    exact rt_i hQQ hx hb hr hlk hw ⟨rfl, _, rfl, hk⟩ d_S_backgroundNumber_9
set_option maxHeartbeats 4000000 in
set_option maxRecDepth 100000 in
theorem ct_S_colour {l : Launch} {D : va_G} {cA : ClassId} {ad tb : Nat → Nat} (M0 : Mem) (a1 : Int32) (a2 : Int32) (Q : Int32 → Prop) (hk : wp_S_colour M0 a1 a2 Q) : Ct l y_S_colour ws_S_colour rm_S_colour D (ceC ad cA) cA tb [.ref (ad 4), .int a1, .int a2] M0 (QIp M0 Q) := by
  refine Ct.of (own := "TileConsole$Screen") (cc := b_S_colour) (maxL := 5) (ret := (some .int)) ceC_fix (by decide) rfl rfl (Nat.le_of_ble_eq_true rfl) ?_
  intro p e s m args below meth c A QQ ls H locs hQQ hC hr hlk hw hl
  have hx := hC.1.1
  have hb := hC.1.2.1
  unfold wp_S_colour at hk
  have hl : lv_has ls 5 [(0, .ref (ad 4)), (1, .int a1), (2, .int a2)] := hl
  refine lv_aload_n hx hb d_S_colour_0 rfl (lv_at hl 0 rfl) ?_
  refine g_S_aheadNumber hC hw m_135 d_S_colour_1 ?_
  refine lv_iload_n hx hb d_S_colour_4 rfl (lv_at hl 1 rfl) ?_
  obtain ⟨hin, hk⟩ := hk
  refine ld_14 hC hw hin rfl d_S_colour_5 ?_
  refine lv_topi (fun x1 e_x1 => ?_)
  have hk := hk x1 e_x1
  refine lv_istore_n (lv' := [(3, .int x1), (0, .ref (ad 4)), (1, .int a1), (2, .int a2)]) hx hb d_S_colour_6 rfl hl (by decide) rfl (fun ls hl => ?_)
  refine lv_aload_n hx hb d_S_colour_7 rfl (lv_at hl 1 rfl) ?_
  refine g_S_aheadFlags hC hw m_137 d_S_colour_8 ?_
  refine lv_iload_n hx hb d_S_colour_11 rfl (lv_at hl 2 rfl) ?_
  obtain ⟨hin, hk⟩ := hk
  refine ld_16 hC hw hin rfl d_S_colour_12 ?_
  refine lv_topi (fun x2 e_x2 => ?_)
  have hk := hk x2 e_x2
  refine lv_istore (lv' := [(4, .int x2), (3, .int x1), (0, .ref (ad 4)), (1, .int a1), (2, .int a2)]) hx hb d_S_colour_13 hl (by decide) rfl (fun ls hl => ?_)
  refine lv_iload_n hx hb d_S_colour_15 rfl (lv_at hl 1 rfl) ?_
  have hj1 : ∀ (H : Heap) (locs : List Loc) (ls : Array Slot), wp_S_colour_j1 M0 a2 Q → Wd D (ceC ad cA) A s H locs M0 → lv_has ls 5 [(0, .ref (ad 4)), (1, .int a1), (2, .int a2), (3, .int x1), (4, .int x2)] → W p l e rm_S_colour s m args below meth c H locs 0 0 QQ (F0 m 32 ls []) := by
    intro H locs ls  hk hw hl
    unfold wp_S_colour_j1 at hk
    refine lv_aload_n hx hb d_S_colour_32 rfl (lv_at hl 0 rfl) ?_
    refine g_S_ports hC hw m_131 d_S_colour_33 ?_
    refine lv_bipush (v := 71) hx hb d_S_colour_36 (by decide) ?_
    refine ld_8 (k := 71) hC hw (vin_lit rfl) (by decide) d_S_colour_38 ?_
    refine lv_iconst (v := 2) hx hb d_S_colour_39 (by decide) ?_
    refine lv_iload_n hx hb d_S_colour_40 rfl (lv_at hl 2 rfl) ?_
    refine lv_imul hx hb d_S_colour_41 ?_
    refine lv_ishr hx hb d_S_colour_42 ?_
    refine lv_iconst (v := 3) hx hb d_S_colour_43 (by decide) ?_
    refine lv_iand hx hb d_S_colour_44 ?_
    exact rt_i hQQ hx hb hr hlk hw ⟨rfl, _, rfl, hk⟩ d_S_colour_45
  refine lv_if_eq (tgt := 32) hx hb d_S_colour_16 (by decide) (fun hc => ?_) (fun hc => ?_)
  · have hk := hk.1 hc
    exact hj1 _ _ _  hk hw (lv_sub hl [2, 3, 4, 1, 0] rfl)
  · have hk := hk.2 hc
    refine lv_iload hx hb d_S_colour_19 (lv_at hl 0 rfl) ?_
    refine lv_sipush (v := 128) hx hb d_S_colour_21 (by decide) ?_
    refine lv_iand hx hb d_S_colour_24 ?_
    have hj2 : ∀ (H : Heap) (locs : List Loc) (ls : Array Slot), wp_S_colour_j2 M0 x1 x2 Q → Wd D (ceC ad cA) A s H locs M0 → lv_has ls 5 [(0, .ref (ad 4)), (1, .int a1), (2, .int a2), (3, .int x1), (4, .int x2)] → W p l e rm_S_colour s m args below meth c H locs 0 0 QQ (F0 m 46 ls []) := by
      intro H locs ls  hk hw hl
      unfold wp_S_colour_j2 at hk
      refine lv_aload_n hx hb d_S_colour_46 rfl (lv_at hl 0 rfl) ?_
      refine g_S_ports hC hw m_131 d_S_colour_47 ?_
      refine lv_bipush (v := 72) hx hb d_S_colour_50 (by decide) ?_
      refine lv_iload hx hb d_S_colour_52 (lv_at hl 4 rfl) ?_
      refine lv_iconst (v := 4) hx hb d_S_colour_54 (by decide) ?_
      refine lv_ishr hx hb d_S_colour_55 ?_
      refine lv_iconst (v := 1) hx hb d_S_colour_56 (by decide) ?_
      refine lv_iand hx hb d_S_colour_57 ?_
      refine lv_iadd hx hb d_S_colour_58 ?_
      obtain ⟨hin, hk⟩ := hk
      refine ld_8 hC hw hin rfl d_S_colour_59 ?_
      refine lv_iconst (v := 2) hx hb d_S_colour_60 (by decide) ?_
      refine lv_iload_n hx hb d_S_colour_61 rfl (lv_at hl 3 rfl) ?_
      refine lv_imul hx hb d_S_colour_62 ?_
      refine lv_ishr hx hb d_S_colour_63 ?_
      refine lv_iconst (v := 3) hx hb d_S_colour_64 (by decide) ?_
      refine lv_iand hx hb d_S_colour_65 ?_
      exact rt_i hQQ hx hb hr hlk hw ⟨rfl, _, rfl, hk⟩ d_S_colour_66
    refine lv_if_eq (tgt := 46) hx hb d_S_colour_25 (by decide) (fun hc => ?_) (fun hc => ?_)
    · have hk := hk.1 hc
      exact hj2 _ _ _  hk hw (lv_sub hl [2, 3, 4, 1, 0] rfl)
    · have hk := hk.2 hc
      refine lv_iload_n hx hb d_S_colour_28 rfl (lv_at hl 4 rfl) ?_
      refine lv_if_eq (tgt := 46) hx hb d_S_colour_29 (by decide) (fun hc => ?_) (fun hc => ?_)
      · have hk := hk.1 hc
        exact hj2 _ _ _  hk hw (lv_sub hl [2, 3, 4, 1, 0] rfl)
      · have hk := hk.2 hc
        exact hj1 _ _ _  hk hw (lv_sub hl [2, 3, 4, 1, 0] rfl)
