set_option maxHeartbeats 4000000 in
set_option maxRecDepth 100000 in
theorem ct_Q_adjustDecimal {l : Launch} {D : va_G} {cA : ClassId} {ad tb : Nat → Nat} (M0 : Mem) (Q : Mem → Prop) (hk : wp_Q_adjustDecimal M0 Q) : Ct l y_Q_adjustDecimal ws_Q_adjustDecimal rm_Q_adjustDecimal D (ceC ad cA) cA tb [.ref (ad 5)] M0 (QV Q) := by
  refine Ct.of (own := "TileConsole$Processor") (cc := b_Q_adjustDecimal) (maxL := 6) (ret := none) ceC_fix (by decide) rfl rfl (Nat.le_of_ble_eq_true rfl) ?_
  intro p e s m args below meth c A QQ ls H locs hQQ hC hr hlk hw hl
  have hx := hC.1.1
  have hb := hC.1.2.1
  unfold wp_Q_adjustDecimal at hk
  have hl : lv_has ls 6 [(0, .ref (ad 5))] := hl
  refine lv_aload_n hx hb d_Q_adjustDecimal_0 rfl (lv_at hl 0 rfl) ?_
  refine g_Q_r hC hw m_26 d_Q_adjustDecimal_1 ?_
  refine lv_bipush (v := 7) hx hb d_Q_adjustDecimal_4 (by decide) ?_
  refine ld_17 (k := 7) hC hw (vin_lit rfl) (by decide) d_Q_adjustDecimal_6 ?_
  refine lv_topi (fun x1 e_x1 => ?_)
  have hk := hk x1 e_x1
  refine lv_istore_n (lv' := [(1, .int x1), (0, .ref (ad 5))]) hx hb d_Q_adjustDecimal_7 rfl hl (by decide) rfl (fun ls hl => ?_)
  refine lv_aload_n hx hb d_Q_adjustDecimal_8 rfl (lv_at hl 1 rfl) ?_
  refine g_Q_r hC hw m_26 d_Q_adjustDecimal_9 ?_
  refine lv_bipush (v := 6) hx hb d_Q_adjustDecimal_12 (by decide) ?_
  refine ld_17 (k := 6) hC hw (vin_lit rfl) (by decide) d_Q_adjustDecimal_14 ?_
  refine lv_topi (fun x2 e_x2 => ?_)
  have hk := hk x2 e_x2
  refine lv_istore_n (lv' := [(2, .int x2), (1, .int x1), (0, .ref (ad 5))]) hx hb d_Q_adjustDecimal_15 rfl hl (by decide) rfl (fun ls hl => ?_)
  refine lv_iload_n hx hb d_Q_adjustDecimal_16 rfl (lv_at hl 0 rfl) ?_
  refine lv_bipush (v := 16) hx hb d_Q_adjustDecimal_17 (by decide) ?_
  refine lv_iand hx hb d_Q_adjustDecimal_19 ?_
  have hj1 : ∀ (H : Heap) (locs : List Loc) (ls : Array Slot) (x166 : Int32), wp_Q_adjustDecimal_j1 M0 x1 x2 x166 Q → Wd D (ceC ad cA) A s H locs M0 → lv_has ls 6 [(0, .ref (ad 5)), (1, .int x1), (2, .int x2)] → W p l e rm_Q_adjustDecimal s m args below meth c H locs 0 0 QQ (F0 m 28 ls [.int x166]) := by
    intro H locs ls x166 hk hw hl
    unfold wp_Q_adjustDecimal_j1 at hk
    refine lv_istore_n (lv' := [(3, .int x166), (0, .ref (ad 5)), (1, .int x1), (2, .int x2)]) hx hb d_Q_adjustDecimal_28 rfl hl (by decide) rfl (fun ls hl => ?_)
    refine lv_iload_n hx hb d_Q_adjustDecimal_29 rfl (lv_at hl 3 rfl) ?_
    refine lv_bipush (v := 32) hx hb d_Q_adjustDecimal_30 (by decide) ?_
    refine lv_iand hx hb d_Q_adjustDecimal_32 ?_
    have hj2 : ∀ (H : Heap) (locs : List Loc) (ls : Array Slot) (x248 : Int32), wp_Q_adjustDecimal_j2 M0 x1 x2 x166 x248 Q → Wd D (ceC ad cA) A s H locs M0 → lv_has ls 6 [(0, .ref (ad 5)), (1, .int x1), (2, .int x2), (3, .int x166)] → W p l e rm_Q_adjustDecimal s m args below meth c H locs 0 0 QQ (F0 m 41 ls [.int x248]) := by
      intro H locs ls x248 hk hw hl
      unfold wp_Q_adjustDecimal_j2 at hk
      refine lv_istore (lv' := [(4, .int x248), (0, .ref (ad 5)), (1, .int x1), (2, .int x2), (3, .int x166)]) hx hb d_Q_adjustDecimal_41 hl (by decide) rfl (fun ls hl => ?_)
      refine lv_iload_n hx hb d_Q_adjustDecimal_43 rfl (lv_at hl 3 rfl) ?_
      refine lv_bipush (v := 64) hx hb d_Q_adjustDecimal_44 (by decide) ?_
      refine lv_iand hx hb d_Q_adjustDecimal_46 ?_
      have hj3 : ∀ (H : Heap) (locs : List Loc) (ls : Array Slot) (x289 : Int32) (x290 : Int32), wp_Q_adjustDecimal_j3 M0 x1 x2 x289 x290 Q → Wd D (ceC ad cA) A s H locs M0 → lv_has ls 6 [(0, .ref (ad 5)), (1, .int x1), (2, .int x2), (3, .int x289), (4, .int x248), (5, .int x290)] → W p l e rm_Q_adjustDecimal s m args below meth c H locs 0 0 QQ (F0 m 127 ls []) := by
        intro H locs ls x289 x290 hk hw hl
        unfold wp_Q_adjustDecimal_j3 at hk
        refine lv_aload_n hx hb d_Q_adjustDecimal_127 rfl (lv_at hl 0 rfl) ?_
        refine g_Q_r hC hw m_26 d_Q_adjustDecimal_128 ?_
        refine lv_bipush (v := 7) hx hb d_Q_adjustDecimal_131 (by decide) ?_
        refine lv_iload_n hx hb d_Q_adjustDecimal_133 rfl (lv_at hl 1 rfl) ?_
        refine lv_iload hx hb d_Q_adjustDecimal_134 (lv_at hl 5 rfl) ?_
        refine lv_iadd hx hb d_Q_adjustDecimal_136 ?_
        refine lv_sipush (v := 255) hx hb d_Q_adjustDecimal_137 (by decide) ?_
        refine lv_iand hx hb d_Q_adjustDecimal_140 ?_
        refine st_17 (k := 7) hC hw (vin_lit rfl) (by decide) d_Q_adjustDecimal_141 (fun H locs M291 e_M291 hw => ?_)
        have hk := hk M291 e_M291
        refine lv_aload_n hx hb d_Q_adjustDecimal_142 rfl (lv_at hl 0 rfl) ?_
        refine g_Q_r hC hw m_26 d_Q_adjustDecimal_143 ?_
        refine lv_bipush (v := 6) hx hb d_Q_adjustDecimal_146 (by decide) ?_
        refine lv_aload_n hx hb d_Q_adjustDecimal_148 rfl (lv_at hl 0 rfl) ?_
        refine g_Q_r hC hw m_26 d_Q_adjustDecimal_149 ?_
        refine lv_bipush (v := 7) hx hb d_Q_adjustDecimal_152 (by decide) ?_
        refine ld_17 (k := 7) hC hw (vin_lit rfl) (by decide) d_Q_adjustDecimal_154 ?_
        refine cl_Sip (As := [.int (M291 17 7)]) hC hw (ct_Q_zero _ _ _ hk) m_91 mw_Q_zero rfl ⟨rfl, rfl, Nat.le_of_ble_eq_true rfl, Nat.le_of_ble_eq_true rfl⟩ rfl hl.1 rfl (Nat.le_of_ble_eq_true rfl) d_Q_adjustDecimal_155 (fun H locs x292 hk hw => ?_)
        refine lv_iload_n hx hb d_Q_adjustDecimal_158 rfl (lv_at hl 2 rfl) ?_
        refine lv_bipush (v := 64) hx hb d_Q_adjustDecimal_159 (by decide) ?_
        refine lv_iand hx hb d_Q_adjustDecimal_161 ?_
        refine lv_ior hx hb d_Q_adjustDecimal_162 ?_
        refine lv_iload_n hx hb d_Q_adjustDecimal_163 rfl (lv_at hl 3 rfl) ?_
        have hj4 : ∀ (H : Heap) (locs : List Loc) (ls : Array Slot) (x295 : Int32), wp_Q_adjustDecimal_j4 x2 M291 x292 x295 Q → Wd D (ceC ad cA) A s H locs M291 → lv_has ls 6 [(0, .ref (ad 5)), (1, .int x1), (2, .int x2), (3, .int x289), (4, .int x248), (5, .int x290)] → W p l e rm_Q_adjustDecimal s m args below meth c H locs 0 0 QQ (F0 m 173 ls [.int x295, .int (x292 ||| (x2 &&& (64 : Int32))), .int (6 : Int32), .ref (ad 17)]) := by
          intro H locs ls x295 hk hw hl
          unfold wp_Q_adjustDecimal_j4 at hk
          refine lv_ior hx hb d_Q_adjustDecimal_173 ?_
          refine st_17 (k := 6) hC hw (vin_lit rfl) (by decide) d_Q_adjustDecimal_174 (fun H locs M296 e_M296 hw => ?_)
          have hk := hk M296 e_M296
          exact rt_v hQQ hx hb hr hlk hw ⟨rfl, hk⟩ d_Q_adjustDecimal_175
        refine lv_if_eq (tgt := 172) hx hb d_Q_adjustDecimal_164 (by decide) (fun hc => ?_) (fun hc => ?_)
        · have hk := hk.1 hc
          refine lv_iconst (v := 0) hx hb d_Q_adjustDecimal_172 (by decide) ?_
          exact hj4 _ _ _ _ hk hw (lv_sub hl [0, 1, 2, 3, 4, 5] rfl)
        · have hk := hk.2 hc
          refine lv_bipush (v := 16) hx hb d_Q_adjustDecimal_167 (by decide) ?_
          refine lv_goto (tgt := 173) hx hb d_Q_adjustDecimal_169 (by decide) ?_
          exact hj4 _ _ _ _ hk hw (lv_sub hl [0, 1, 2, 3, 4, 5] rfl)
      refine lv_if_eq (tgt := 77) hx hb d_Q_adjustDecimal_47 (by decide) (fun hc => ?_) (fun hc => ?_)
      · have hk := hk.1 hc
        refine lv_iload_n hx hb d_Q_adjustDecimal_77 rfl (lv_at hl 4 rfl) ?_
        have hj5 : ∀ (H : Heap) (locs : List Loc) (ls : Array Slot) (x308 : Int32), wp_Q_adjustDecimal_j5 M0 x1 x2 x248 x308 Q → Wd D (ceC ad cA) A s H locs M0 → lv_has ls 6 [(0, .ref (ad 5)), (1, .int x1), (2, .int x2), (3, .int x166), (4, .int x248)] → W p l e rm_Q_adjustDecimal s m args below meth c H locs 0 0 QQ (F0 m 93 ls [.int x308]) := by
          intro H locs ls x308 hk hw hl
          unfold wp_Q_adjustDecimal_j5 at hk
          refine lv_istore_n (lv' := [(3, .int x308), (0, .ref (ad 5)), (1, .int x1), (2, .int x2), (4, .int x248)]) hx hb d_Q_adjustDecimal_93 rfl hl (by decide) rfl (fun ls hl => ?_)
          refine lv_iload_n hx hb d_Q_adjustDecimal_94 rfl (lv_at hl 0 rfl) ?_
          have hj6 : ∀ (H : Heap) (locs : List Loc) (ls : Array Slot) (x314 : Int32), wp_Q_adjustDecimal_j6 M0 x1 x2 x248 x308 x314 Q → Wd D (ceC ad cA) A s H locs M0 → lv_has ls 6 [(0, .ref (ad 5)), (1, .int x1), (2, .int x2), (3, .int x308), (4, .int x248)] → W p l e rm_Q_adjustDecimal s m args below meth c H locs 0 0 QQ (F0 m 104 ls [.int x314]) := by
            intro H locs ls x314 hk hw hl
            unfold wp_Q_adjustDecimal_j6 at hk
            refine lv_iload hx hb d_Q_adjustDecimal_104 (lv_at hl 4 rfl) ?_
            have hj7 : ∀ (H : Heap) (locs : List Loc) (ls : Array Slot) (x317 : Int32), wp_Q_adjustDecimal_j7 M0 x1 x2 x308 x314 x317 Q → Wd D (ceC ad cA) A s H locs M0 → lv_has ls 6 [(0, .ref (ad 5)), (1, .int x1), (2, .int x2), (3, .int x308), (4, .int x248)] → W p l e rm_Q_adjustDecimal s m args below meth c H locs 0 0 QQ (F0 m 124 ls [.int x317, .int x314]) := by
              intro H locs ls x317 hk hw hl
              unfold wp_Q_adjustDecimal_j7 at hk
              refine lv_iadd hx hb d_Q_adjustDecimal_124 ?_
              refine lv_topi (fun x318 e_x318 => ?_)
              have hk := hk x318 e_x318
              refine lv_istore (lv' := [(5, .int x318), (0, .ref (ad 5)), (1, .int x1), (2, .int x2), (3, .int x308), (4, .int x248)]) hx hb d_Q_adjustDecimal_125 hl (by decide) rfl (fun ls hl => ?_)
              exact hj3 _ _ _ _ _ hk hw (lv_sub hl [1, 2, 3, 4, 5, 0] rfl)
            have hj8 : ∀ (H : Heap) (locs : List Loc) (ls : Array Slot), wp_Q_adjustDecimal_j8 M0 x1 x2 x308 x314 Q → Wd D (ceC ad cA) A s H locs M0 → lv_has ls 6 [(0, .ref (ad 5)), (1, .int x1), (2, .int x2), (3, .int x308), (4, .int x248)] → W p l e rm_Q_adjustDecimal s m args below meth c H locs 0 0 QQ (F0 m 118 ls [.int x314]) := by
              intro H locs ls  hk hw hl
              unfold wp_Q_adjustDecimal_j8 at hk
              refine lv_bipush (v := 6) hx hb d_Q_adjustDecimal_118 (by decide) ?_
              refine lv_goto (tgt := 124) hx hb d_Q_adjustDecimal_120 (by decide) ?_
              exact hj7 _ _ _ _ hk hw (lv_sub hl [0, 1, 2, 3, 4] rfl)
            refine lv_if_ne (tgt := 118) hx hb d_Q_adjustDecimal_106 (by decide) (fun hc => ?_) (fun hc => ?_)
            · have hk := hk.1 hc
              exact hj8 _ _ _  hk hw (lv_sub hl [0, 1, 2, 3, 4] rfl)
            · have hk := hk.2 hc
              refine lv_iload_n hx hb d_Q_adjustDecimal_109 rfl (lv_at hl 1 rfl) ?_
              refine lv_bipush (v := 15) hx hb d_Q_adjustDecimal_110 (by decide) ?_
              refine lv_iand hx hb d_Q_adjustDecimal_112 ?_
              refine lv_bipush (v := 9) hx hb d_Q_adjustDecimal_113 (by decide) ?_
              refine lv_icmp_le (tgt := 123) hx hb d_Q_adjustDecimal_115 (by decide) (fun hc => ?_) (fun hc => ?_)
              · have hk := hk.1 hc
                refine lv_iconst (v := 0) hx hb d_Q_adjustDecimal_123 (by decide) ?_
                exact hj7 _ _ _ _ hk hw (lv_sub hl [0, 1, 2, 3, 4] rfl)
              · have hk := hk.2 hc
                exact hj8 _ _ _  hk hw (lv_sub hl [0, 1, 2, 3, 4] rfl)
          refine lv_if_eq (tgt := 103) hx hb d_Q_adjustDecimal_95 (by decide) (fun hc => ?_) (fun hc => ?_)
          · have hk := hk.1 hc
            refine lv_iconst (v := 0) hx hb d_Q_adjustDecimal_103 (by decide) ?_
            exact hj6 _ _ _ _ hk hw (lv_sub hl [1, 2, 3, 0, 4] rfl)
          · have hk := hk.2 hc
            refine lv_bipush (v := 96) hx hb d_Q_adjustDecimal_98 (by decide) ?_
            refine lv_goto (tgt := 104) hx hb d_Q_adjustDecimal_100 (by decide) ?_
            exact hj6 _ _ _ _ hk hw (lv_sub hl [1, 2, 3, 0, 4] rfl)
        have hj9 : ∀ (H : Heap) (locs : List Loc) (ls : Array Slot), wp_Q_adjustDecimal_j9 M0 x1 x2 x248 Q → Wd D (ceC ad cA) A s H locs M0 → lv_has ls 6 [(0, .ref (ad 5)), (1, .int x1), (2, .int x2), (3, .int x166), (4, .int x248)] → W p l e rm_Q_adjustDecimal s m args below meth c H locs 0 0 QQ (F0 m 88 ls []) := by
          intro H locs ls  hk hw hl
          unfold wp_Q_adjustDecimal_j9 at hk
          refine lv_iconst (v := 1) hx hb d_Q_adjustDecimal_88 (by decide) ?_
          refine lv_goto (tgt := 93) hx hb d_Q_adjustDecimal_89 (by decide) ?_
          exact hj5 _ _ _ _ hk hw (lv_sub hl [0, 1, 2, 3, 4] rfl)
        refine lv_if_ne (tgt := 88) hx hb d_Q_adjustDecimal_78 (by decide) (fun hc => ?_) (fun hc => ?_)
        · have hk := hk.1 hc
          exact hj9 _ _ _  hk hw (lv_sub hl [1, 2, 3, 4, 0] rfl)
        · have hk := hk.2 hc
          refine lv_iload_n hx hb d_Q_adjustDecimal_81 rfl (lv_at hl 2 rfl) ?_
          refine lv_sipush (v := 153) hx hb d_Q_adjustDecimal_82 (by decide) ?_
          refine lv_icmp_le (tgt := 92) hx hb d_Q_adjustDecimal_85 (by decide) (fun hc => ?_) (fun hc => ?_)
          · have hk := hk.1 hc
            refine lv_iconst (v := 0) hx hb d_Q_adjustDecimal_92 (by decide) ?_
            exact hj5 _ _ _ _ hk hw (lv_sub hl [1, 2, 3, 4, 0] rfl)
          · have hk := hk.2 hc
            exact hj9 _ _ _  hk hw (lv_sub hl [1, 2, 3, 4, 0] rfl)
      · have hk := hk.2 hc
        refine lv_iload_n hx hb d_Q_adjustDecimal_50 rfl (lv_at hl 4 rfl) ?_
        have hj10 : ∀ (H : Heap) (locs : List Loc) (ls : Array Slot) (x324 : Int32), wp_Q_adjustDecimal_j10 M0 x1 x2 x166 x248 x324 Q → Wd D (ceC ad cA) A s H locs M0 → lv_has ls 6 [(0, .ref (ad 5)), (1, .int x1), (2, .int x2), (3, .int x166), (4, .int x248)] → W p l e rm_Q_adjustDecimal s m args below meth c H locs 0 0 QQ (F0 m 60 ls [.int x324]) := by
          intro H locs ls x324 hk hw hl
          unfold wp_Q_adjustDecimal_j10 at hk
          refine lv_iload hx hb d_Q_adjustDecimal_60 (lv_at hl 4 rfl) ?_
          have hj11 : ∀ (H : Heap) (locs : List Loc) (ls : Array Slot) (x327 : Int32), wp_Q_adjustDecimal_j11 M0 x1 x2 x166 x324 x327 Q → Wd D (ceC ad cA) A s H locs M0 → lv_has ls 6 [(0, .ref (ad 5)), (1, .int x1), (2, .int x2), (3, .int x166), (4, .int x248)] → W p l e rm_Q_adjustDecimal s m args below meth c H locs 0 0 QQ (F0 m 71 ls [.int x327, .int x324]) := by
            intro H locs ls x327 hk hw hl
            unfold wp_Q_adjustDecimal_j11 at hk
            refine lv_iadd hx hb d_Q_adjustDecimal_71 ?_
            refine lv_topi (fun x328 e_x328 => ?_)
            have hk := hk x328 e_x328
            refine lv_istore (lv' := [(5, .int x328), (0, .ref (ad 5)), (1, .int x1), (2, .int x2), (3, .int x166), (4, .int x248)]) hx hb d_Q_adjustDecimal_72 hl (by decide) rfl (fun ls hl => ?_)
            refine lv_goto (tgt := 127) hx hb d_Q_adjustDecimal_74 (by decide) ?_
            exact hj3 _ _ _ _ _ hk hw (lv_sub hl [1, 2, 3, 4, 5, 0] rfl)
          refine lv_if_eq (tgt := 70) hx hb d_Q_adjustDecimal_62 (by decide) (fun hc => ?_) (fun hc => ?_)
          · have hk := hk.1 hc
            refine lv_iconst (v := 0) hx hb d_Q_adjustDecimal_70 (by decide) ?_
            exact hj11 _ _ _ _ hk hw (lv_sub hl [0, 1, 2, 3, 4] rfl)
          · have hk := hk.2 hc
            refine lv_bipush (v := (-6)) hx hb d_Q_adjustDecimal_65 (by decide) ?_
            refine lv_goto (tgt := 71) hx hb d_Q_adjustDecimal_67 (by decide) ?_
            exact hj11 _ _ _ _ hk hw (lv_sub hl [0, 1, 2, 3, 4] rfl)
        refine lv_if_eq (tgt := 59) hx hb d_Q_adjustDecimal_51 (by decide) (fun hc => ?_) (fun hc => ?_)
        · have hk := hk.1 hc
          refine lv_iconst (v := 0) hx hb d_Q_adjustDecimal_59 (by decide) ?_
          exact hj10 _ _ _ _ hk hw (lv_sub hl [1, 2, 3, 4, 0] rfl)
        · have hk := hk.2 hc
          refine lv_bipush (v := (-96)) hx hb d_Q_adjustDecimal_54 (by decide) ?_
          refine lv_goto (tgt := 60) hx hb d_Q_adjustDecimal_56 (by decide) ?_
          exact hj10 _ _ _ _ hk hw (lv_sub hl [1, 2, 3, 4, 0] rfl)
    refine lv_if_eq (tgt := 40) hx hb d_Q_adjustDecimal_33 (by decide) (fun hc => ?_) (fun hc => ?_)
    · have hk := hk.1 hc
      refine lv_iconst (v := 0) hx hb d_Q_adjustDecimal_40 (by decide) ?_
      exact hj2 _ _ _ _ hk hw (lv_sub hl [1, 2, 3, 0] rfl)
    · have hk := hk.2 hc
      refine lv_iconst (v := 1) hx hb d_Q_adjustDecimal_36 (by decide) ?_
      refine lv_goto (tgt := 41) hx hb d_Q_adjustDecimal_37 (by decide) ?_
      exact hj2 _ _ _ _ hk hw (lv_sub hl [1, 2, 3, 0] rfl)
  refine lv_if_eq (tgt := 27) hx hb d_Q_adjustDecimal_20 (by decide) (fun hc => ?_) (fun hc => ?_)
  · have hk := hk.1 hc
    refine lv_iconst (v := 0) hx hb d_Q_adjustDecimal_27 (by decide) ?_
    exact hj1 _ _ _ _ hk hw (lv_sub hl [2, 1, 0] rfl)
  · have hk := hk.2 hc
    refine lv_iconst (v := 1) hx hb d_Q_adjustDecimal_23 (by decide) ?_
    refine lv_goto (tgt := 28) hx hb d_Q_adjustDecimal_24 (by decide) ?_
    exact hj1 _ _ _ _ hk hw (lv_sub hl [2, 1, 0] rfl)
set_option maxHeartbeats 4000000 in
set_option maxRecDepth 100000 in
theorem ct_Q_shifted {l : Launch} {D : va_G} {cA : ClassId} {ad tb : Nat → Nat} (M0 : Mem) (a1 : Int32) (a2 : Int32) (Q : Int32 → Mem → Prop) (hk : wp_Q_shifted M0 a1 a2 Q) : Ct l y_Q_shifted ws_Q_shifted rm_Q_shifted D (ceC ad cA) cA tb [.ref (ad 5), .int a1, .int a2] M0 (QI Q) := by
  refine Ct.of (own := "TileConsole$Processor") (cc := b_Q_shifted) (maxL := 7) (ret := (some .int)) ceC_fix (by decide) rfl rfl (Nat.le_of_ble_eq_true rfl) ?_
  intro p e s m args below meth c A QQ ls H locs hQQ hC hr hlk hw hl
  have hx := hC.1.1
  have hb := hC.1.2.1
  unfold wp_Q_shifted at hk
  have hl : lv_has ls 7 [(0, .ref (ad 5)), (1, .int a1), (2, .int a2)] := hl
  refine lv_aload_n hx hb d_Q_shifted_0 rfl (lv_at hl 0 rfl) ?_
  refine g_Q_r hC hw m_26 d_Q_shifted_1 ?_
  refine lv_bipush (v := 6) hx hb d_Q_shifted_4 (by decide) ?_
  refine ld_17 (k := 6) hC hw (vin_lit rfl) (by decide) d_Q_shifted_6 ?_
  refine lv_bipush (v := 16) hx hb d_Q_shifted_7 (by decide) ?_
  refine lv_iand hx hb d_Q_shifted_9 ?_
  have hj1 : ∀ (H : Heap) (locs : List Loc) (ls : Array Slot) (x128 : Int32), wp_Q_shifted_j1 M0 a1 a2 x128 Q → Wd D (ceC ad cA) A s H locs M0 → lv_has ls 7 [(0, .ref (ad 5)), (1, .int a1), (2, .int a2)] → W p l e rm_Q_shifted s m args below meth c H locs 0 0 QQ (F0 m 18 ls [.int x128]) := by
    intro H locs ls x128 hk hw hl
    unfold wp_Q_shifted_j1 at hk
    refine lv_istore_n (lv' := [(3, .int x128), (0, .ref (ad 5)), (1, .int a1), (2, .int a2)]) hx hb d_Q_shifted_18 rfl hl (by decide) rfl (fun ls hl => ?_)
    refine lv_iload_n hx hb d_Q_shifted_19 rfl (lv_at hl 2 rfl) ?_
    have hj2 : ∀ (H : Heap) (locs : List Loc) (ls : Array Slot) (x192 : Int32), wp_Q_shifted_j2 M0 a1 a2 x128 x192 Q → Wd D (ceC ad cA) A s H locs M0 → lv_has ls 7 [(0, .ref (ad 5)), (1, .int a1), (2, .int a2), (3, .int x128)] → W p l e rm_Q_shifted s m args below meth c H locs 0 0 QQ (F0 m 38 ls [.int x192]) := by
      intro H locs ls x192 hk hw hl
      unfold wp_Q_shifted_j2 at hk
      refine lv_istore (lv' := [(4, .int x192), (0, .ref (ad 5)), (1, .int a1), (2, .int a2), (3, .int x128)]) hx hb d_Q_shifted_38 hl (by decide) rfl (fun ls hl => ?_)
      refine lv_iload hx hb d_Q_shifted_40 (lv_at hl 0 rfl) ?_
      have hj3 : ∀ (H : Heap) (locs : List Loc) (ls : Array Slot) (x224 : Int32), wp_Q_shifted_j3 M0 a1 a2 x128 x224 Q → Wd D (ceC ad cA) A s H locs M0 → lv_has ls 7 [(0, .ref (ad 5)), (1, .int a1), (2, .int a2), (3, .int x128), (4, .int x192)] → W p l e rm_Q_shifted s m args below meth c H locs 0 0 QQ (F0 m 55 ls [.int x224]) := by
        intro H locs ls x224 hk hw hl
        unfold wp_Q_shifted_j3 at hk
        refine lv_istore (lv' := [(5, .int x224), (0, .ref (ad 5)), (1, .int a1), (2, .int a2), (3, .int x128), (4, .int x192)]) hx hb d_Q_shifted_55 hl (by decide) rfl (fun ls hl => ?_)
        refine lv_iload_n hx hb d_Q_shifted_57 rfl (lv_at hl 2 rfl) ?_
        have hj4 : ∀ (H : Heap) (locs : List Loc) (ls : Array Slot) (x240 : Int32) (x241 : Int32), wp_Q_shifted_j4 M0 x240 x241 Q → Wd D (ceC ad cA) A s H locs M0 → lv_has ls 7 [(0, .ref (ad 5)), (1, .int a1), (2, .int a2), (3, .int x128), (4, .int x192), (5, .int x240), (6, .int x241)] → W p l e rm_Q_shifted s m args below meth c H locs 0 0 QQ (F0 m 190 ls []) := by
          intro H locs ls x240 x241 hk hw hl
          unfold wp_Q_shifted_j4 at hk
          refine lv_aload_n hx hb d_Q_shifted_190 rfl (lv_at hl 0 rfl) ?_
          refine g_Q_r hC hw m_26 d_Q_shifted_191 ?_
          refine lv_bipush (v := 6) hx hb d_Q_shifted_194 (by decide) ?_
          refine lv_iload hx hb d_Q_shifted_196 (lv_at hl 6 rfl) ?_
          refine lv_sipush (v := 255) hx hb d_Q_shifted_198 (by decide) ?_
          refine lv_iand hx hb d_Q_shifted_201 ?_
          refine cl_Sip (As := [.int (x241 &&& (255 : Int32))]) hC hw (ct_Q_zero _ _ _ hk) m_91 mw_Q_zero rfl ⟨rfl, rfl, Nat.le_of_ble_eq_true rfl, Nat.le_of_ble_eq_true rfl⟩ rfl hl.1 rfl (Nat.le_of_ble_eq_true rfl) d_Q_shifted_202 (fun H locs x242 hk hw => ?_)
          refine lv_iload hx hb d_Q_shifted_205 (lv_at hl 5 rfl) ?_
          have hj5 : ∀ (H : Heap) (locs : List Loc) (ls : Array Slot) (x245 : Int32), wp_Q_shifted_j5 M0 x241 x242 x245 Q → Wd D (ceC ad cA) A s H locs M0 → lv_has ls 7 [(0, .ref (ad 5)), (1, .int a1), (2, .int a2), (3, .int x128), (4, .int x192), (5, .int x240), (6, .int x241)] → W p l e rm_Q_shifted s m args below meth c H locs 0 0 QQ (F0 m 216 ls [.int x245, .int x242, .int (6 : Int32), .ref (ad 17)]) := by
            intro H locs ls x245 hk hw hl
            unfold wp_Q_shifted_j5 at hk
            refine lv_ior hx hb d_Q_shifted_216 ?_
            refine st_17 (k := 6) hC hw (vin_lit rfl) (by decide) d_Q_shifted_217 (fun H locs M246 e_M246 hw => ?_)
            have hk := hk M246 e_M246
            refine lv_iload hx hb d_Q_shifted_218 (lv_at hl 6 rfl) ?_
            refine lv_sipush (v := 255) hx hb d_Q_shifted_220 (by decide) ?_
            refine lv_iand hx hb d_Q_shifted_223 ?_
            exact rt_i hQQ hx hb hr hlk hw ⟨_, rfl, hk⟩ d_Q_shifted_224
          refine lv_if_eq (tgt := 215) hx hb d_Q_shifted_207 (by decide) (fun hc => ?_) (fun hc => ?_)
          · have hk := hk.1 hc
            refine lv_iconst (v := 0) hx hb d_Q_shifted_215 (by decide) ?_
            exact hj5 _ _ _ _ hk hw (lv_sub hl [0, 1, 2, 3, 4, 5, 6] rfl)
          · have hk := hk.2 hc
            refine lv_bipush (v := 16) hx hb d_Q_shifted_210 (by decide) ?_
            refine lv_goto (tgt := 216) hx hb d_Q_shifted_212 (by decide) ?_
            exact hj5 _ _ _ _ hk hw (lv_sub hl [0, 1, 2, 3, 4, 5, 6] rfl)
        by_cases hs50 : (a1 = (0 : Int32))
        · have hk := hk.1 hs50
          refine lv_tableIn (x := a1) (off := 42) (tgt := 100) hx hb d_Q_shifted_58 (by rw [hs50]; decide) (by rw [hs50]; decide) (by rw [hs50]; decide) (by decide) ?_
          refine lv_iload_n hx hb d_Q_shifted_100 rfl (lv_at hl 3 rfl) ?_
          refine lv_iconst (v := 1) hx hb d_Q_shifted_101 (by decide) ?_
          refine lv_ishl hx hb d_Q_shifted_102 ?_
          refine lv_iload hx hb d_Q_shifted_103 (lv_at hl 0 rfl) ?_
          refine lv_ior hx hb d_Q_shifted_105 ?_
          refine lv_topi (fun x247 e_x247 => ?_)
          have hk := hk x247 e_x247
          refine lv_istore (lv' := [(6, .int x247), (5, .int x224), (0, .ref (ad 5)), (1, .int a1), (2, .int a2), (3, .int x128), (4, .int x192)]) hx hb d_Q_shifted_106 hl (by decide) rfl (fun ls hl => ?_)
          refine lv_goto (tgt := 190) hx hb d_Q_shifted_108 (by decide) ?_
          exact hj4 _ _ _ _ _ hk hw (lv_sub hl [2, 3, 4, 5, 6, 1, 0] rfl)
        · have hk := hk.2 hs50
          by_cases hs51 : (a1 = (1 : Int32))
          · have hk := hk.1 hs51
            refine lv_tableIn (x := a1) (off := 53) (tgt := 111) hx hb d_Q_shifted_58 (by rw [hs51]; decide) (by rw [hs51]; decide) (by rw [hs51]; decide) (by decide) ?_
            refine lv_iload_n hx hb d_Q_shifted_111 rfl (lv_at hl 3 rfl) ?_
            refine lv_iconst (v := 1) hx hb d_Q_shifted_112 (by decide) ?_
            refine lv_ishr hx hb d_Q_shifted_113 ?_
            refine lv_iload hx hb d_Q_shifted_114 (lv_at hl 0 rfl) ?_
            refine lv_bipush (v := 7) hx hb d_Q_shifted_116 (by decide) ?_
            refine lv_ishl hx hb d_Q_shifted_118 ?_
            refine lv_ior hx hb d_Q_shifted_119 ?_
            refine lv_topi (fun x248 e_x248 => ?_)
            have hk := hk x248 e_x248
            refine lv_istore (lv' := [(6, .int x248), (5, .int x224), (0, .ref (ad 5)), (1, .int a1), (2, .int a2), (3, .int x128), (4, .int x192)]) hx hb d_Q_shifted_120 hl (by decide) rfl (fun ls hl => ?_)
            refine lv_goto (tgt := 190) hx hb d_Q_shifted_122 (by decide) ?_
            exact hj4 _ _ _ _ _ hk hw (lv_sub hl [2, 3, 4, 5, 6, 1, 0] rfl)
          · have hk := hk.2 hs51
            by_cases hs52 : (a1 = (2 : Int32))
            · have hk := hk.1 hs52
              refine lv_tableIn (x := a1) (off := 67) (tgt := 125) hx hb d_Q_shifted_58 (by rw [hs52]; decide) (by rw [hs52]; decide) (by rw [hs52]; decide) (by decide) ?_
              refine lv_iload_n hx hb d_Q_shifted_125 rfl (lv_at hl 3 rfl) ?_
              refine lv_iconst (v := 1) hx hb d_Q_shifted_126 (by decide) ?_
              refine lv_ishl hx hb d_Q_shifted_127 ?_
              refine lv_iload_n hx hb d_Q_shifted_128 rfl (lv_at hl 4 rfl) ?_
              refine lv_ior hx hb d_Q_shifted_129 ?_
              refine lv_topi (fun x249 e_x249 => ?_)
              have hk := hk x249 e_x249
              refine lv_istore (lv' := [(6, .int x249), (5, .int x224), (0, .ref (ad 5)), (1, .int a1), (2, .int a2), (3, .int x128), (4, .int x192)]) hx hb d_Q_shifted_130 hl (by decide) rfl (fun ls hl => ?_)
              refine lv_goto (tgt := 190) hx hb d_Q_shifted_132 (by decide) ?_
              exact hj4 _ _ _ _ _ hk hw (lv_sub hl [2, 3, 4, 5, 6, 1, 0] rfl)
            · have hk := hk.2 hs52
              by_cases hs53 : (a1 = (3 : Int32))
              · have hk := hk.1 hs53
                refine lv_tableIn (x := a1) (off := 77) (tgt := 135) hx hb d_Q_shifted_58 (by rw [hs53]; decide) (by rw [hs53]; decide) (by rw [hs53]; decide) (by decide) ?_
                refine lv_iload_n hx hb d_Q_shifted_135 rfl (lv_at hl 3 rfl) ?_
                refine lv_iconst (v := 1) hx hb d_Q_shifted_136 (by decide) ?_
                refine lv_ishr hx hb d_Q_shifted_137 ?_
                refine lv_iload_n hx hb d_Q_shifted_138 rfl (lv_at hl 4 rfl) ?_
                refine lv_bipush (v := 7) hx hb d_Q_shifted_139 (by decide) ?_
                refine lv_ishl hx hb d_Q_shifted_141 ?_
                refine lv_ior hx hb d_Q_shifted_142 ?_
                refine lv_topi (fun x250 e_x250 => ?_)
                have hk := hk x250 e_x250
                refine lv_istore (lv' := [(6, .int x250), (5, .int x224), (0, .ref (ad 5)), (1, .int a1), (2, .int a2), (3, .int x128), (4, .int x192)]) hx hb d_Q_shifted_143 hl (by decide) rfl (fun ls hl => ?_)
                refine lv_goto (tgt := 190) hx hb d_Q_shifted_145 (by decide) ?_
                exact hj4 _ _ _ _ _ hk hw (lv_sub hl [2, 3, 4, 5, 6, 1, 0] rfl)
              · have hk := hk.2 hs53
                by_cases hs54 : (a1 = (4 : Int32))
                · have hk := hk.1 hs54
                  refine lv_tableIn (x := a1) (off := 90) (tgt := 148) hx hb d_Q_shifted_58 (by rw [hs54]; decide) (by rw [hs54]; decide) (by rw [hs54]; decide) (by decide) ?_
                  refine lv_iload_n hx hb d_Q_shifted_148 rfl (lv_at hl 3 rfl) ?_
                  refine lv_iconst (v := 1) hx hb d_Q_shifted_149 (by decide) ?_
                  refine lv_ishl hx hb d_Q_shifted_150 ?_
                  refine lv_topi (fun x251 e_x251 => ?_)
                  have hk := hk x251 e_x251
                  refine lv_istore (lv' := [(6, .int x251), (5, .int x224), (0, .ref (ad 5)), (1, .int a1), (2, .int a2), (3, .int x128), (4, .int x192)]) hx hb d_Q_shifted_151 hl (by decide) rfl (fun ls hl => ?_)
                  refine lv_goto (tgt := 190) hx hb d_Q_shifted_153 (by decide) ?_
                  exact hj4 _ _ _ _ _ hk hw (lv_sub hl [2, 3, 4, 5, 6, 1, 0] rfl)
                · have hk := hk.2 hs54
                  by_cases hs55 : (a1 = (5 : Int32))
                  · have hk := hk.1 hs55
                    refine lv_tableIn (x := a1) (off := 98) (tgt := 156) hx hb d_Q_shifted_58 (by rw [hs55]; decide) (by rw [hs55]; decide) (by rw [hs55]; decide) (by decide) ?_
                    refine lv_iload_n hx hb d_Q_shifted_156 rfl (lv_at hl 3 rfl) ?_
                    refine lv_iconst (v := 1) hx hb d_Q_shifted_157 (by decide) ?_
                    refine lv_ishr hx hb d_Q_shifted_158 ?_
                    refine lv_iload_n hx hb d_Q_shifted_159 rfl (lv_at hl 3 rfl) ?_
                    refine lv_sipush (v := 128) hx hb d_Q_shifted_160 (by decide) ?_
                    refine lv_iand hx hb d_Q_shifted_163 ?_
                    refine lv_ior hx hb d_Q_shifted_164 ?_
                    refine lv_topi (fun x252 e_x252 => ?_)
                    have hk := hk x252 e_x252
                    refine lv_istore (lv' := [(6, .int x252), (5, .int x224), (0, .ref (ad 5)), (1, .int a1), (2, .int a2), (3, .int x128), (4, .int x192)]) hx hb d_Q_shifted_165 hl (by decide) rfl (fun ls hl => ?_)
                    refine lv_goto (tgt := 190) hx hb d_Q_shifted_167 (by decide) ?_
                    exact hj4 _ _ _ _ _ hk hw (lv_sub hl [2, 3, 4, 5, 6, 1, 0] rfl)
                  · have hk := hk.2 hs55
                    by_cases hs56 : (a1 = (6 : Int32))
                    · have hk := hk.1 hs56
                      refine lv_tableIn (x := a1) (off := 112) (tgt := 170) hx hb d_Q_shifted_58 (by rw [hs56]; decide) (by rw [hs56]; decide) (by rw [hs56]; decide) (by decide) ?_
                      refine lv_iload_n hx hb d_Q_shifted_170 rfl (lv_at hl 3 rfl) ?_
                      refine lv_iconst (v := 4) hx hb d_Q_shifted_171 (by decide) ?_
                      refine lv_ishr hx hb d_Q_shifted_172 ?_
                      refine lv_iload_n hx hb d_Q_shifted_173 rfl (lv_at hl 3 rfl) ?_
                      refine lv_iconst (v := 4) hx hb d_Q_shifted_174 (by decide) ?_
                      refine lv_ishl hx hb d_Q_shifted_175 ?_
                      refine lv_ior hx hb d_Q_shifted_176 ?_
                      refine lv_topi (fun x253 e_x253 => ?_)
                      have hk := hk x253 e_x253
                      refine lv_istore (lv' := [(6, .int x253), (5, .int x224), (0, .ref (ad 5)), (1, .int a1), (2, .int a2), (3, .int x128), (4, .int x192)]) hx hb d_Q_shifted_177 hl (by decide) rfl (fun ls hl => ?_)
                      refine lv_iconst (v := 0) hx hb d_Q_shifted_179 (by decide) ?_
                      refine lv_istore (lv' := [(5, .int (0 : Int32)), (6, .int x253), (0, .ref (ad 5)), (1, .int a1), (2, .int a2), (3, .int x128), (4, .int x192)]) hx hb d_Q_shifted_180 hl (by decide) rfl (fun ls hl => ?_)
                      refine lv_goto (tgt := 190) hx hb d_Q_shifted_182 (by decide) ?_
                      exact hj4 _ _ _ _ _ hk hw (lv_sub hl [2, 3, 4, 5, 6, 0, 1] rfl)
                    · have hk := hk.2 hs56
                      refine lv_tableOut (x := a1) (tgt := 185) hx hb d_Q_shifted_58 (by have hz := (⟨lv_neT hs50 (show ((0 : Int32)).toInt = 0 by decide), lv_neT hs51 (show ((1 : Int32)).toInt = 1 by decide), lv_neT hs52 (show ((2 : Int32)).toInt = 2 by decide), lv_neT hs53 (show ((3 : Int32)).toInt = 3 by decide), lv_neT hs54 (show ((4 : Int32)).toInt = 4 by decide), lv_neT hs55 (show ((5 : Int32)).toInt = 5 by decide), lv_neT hs56 (show ((6 : Int32)).toInt = 6 by decide)⟩ : ¬ (a1).toInt = 0 ∧ ¬ (a1).toInt = 1 ∧ ¬ (a1).toInt = 2 ∧ ¬ (a1).toInt = 3 ∧ ¬ (a1).toInt = 4 ∧ ¬ (a1).toInt = 5 ∧ ¬ (a1).toInt = 6); omega) (by decide) ?_
                      refine lv_iload_n hx hb d_Q_shifted_185 rfl (lv_at hl 3 rfl) ?_
                      refine lv_iconst (v := 1) hx hb d_Q_shifted_186 (by decide) ?_
                      refine lv_ishr hx hb d_Q_shifted_187 ?_
                      refine lv_topi (fun x254 e_x254 => ?_)
                      have hk := hk x254 e_x254
                      refine lv_istore (lv' := [(6, .int x254), (5, .int x224), (0, .ref (ad 5)), (1, .int a1), (2, .int a2), (3, .int x128), (4, .int x192)]) hx hb d_Q_shifted_188 hl (by decide) rfl (fun ls hl => ?_)
                      exact hj4 _ _ _ _ _ hk hw (lv_sub hl [2, 3, 4, 5, 6, 1, 0] rfl)
      refine lv_if_eq (tgt := 52) hx hb d_Q_shifted_42 (by decide) (fun hc => ?_) (fun hc => ?_)
      · have hk := hk.1 hc
        refine lv_iload_n hx hb d_Q_shifted_52 rfl (lv_at hl 3 rfl) ?_
        refine lv_iconst (v := 1) hx hb d_Q_shifted_53 (by decide) ?_
        refine lv_iand hx hb d_Q_shifted_54 ?_
        exact hj3 _ _ _ _ hk hw (lv_sub hl [1, 2, 3, 4, 0] rfl)
      · have hk := hk.2 hc
        refine lv_iload_n hx hb d_Q_shifted_45 rfl (lv_at hl 3 rfl) ?_
        refine lv_bipush (v := 7) hx hb d_Q_shifted_46 (by decide) ?_
        refine lv_ishr hx hb d_Q_shifted_48 ?_
        refine lv_goto (tgt := 55) hx hb d_Q_shifted_49 (by decide) ?_
        exact hj3 _ _ _ _ hk hw (lv_sub hl [1, 2, 3, 4, 0] rfl)
    have hj6 : ∀ (H : Heap) (locs : List Loc) (ls : Array Slot), wp_Q_shifted_j6 M0 a1 a2 x128 Q → Wd D (ceC ad cA) A s H locs M0 → lv_has ls 7 [(0, .ref (ad 5)), (1, .int a1), (2, .int a2), (3, .int x128)] → W p l e rm_Q_shifted s m args below meth c H locs 0 0 QQ (F0 m 33 ls []) := by
      intro H locs ls  hk hw hl
      unfold wp_Q_shifted_j6 at hk
      refine lv_iconst (v := 1) hx hb d_Q_shifted_33 (by decide) ?_
      refine lv_goto (tgt := 38) hx hb d_Q_shifted_34 (by decide) ?_
      exact hj2 _ _ _ _ hk hw (lv_sub hl [0, 1, 2, 3] rfl)
    refine lv_if_eq (tgt := 33) hx hb d_Q_shifted_20 (by decide) (fun hc => ?_) (fun hc => ?_)
    · have hk := hk.1 hc
      exact hj6 _ _ _  hk hw (lv_sub hl [1, 2, 3, 0] rfl)
    · have hk := hk.2 hc
      refine lv_iload_n hx hb d_Q_shifted_23 rfl (lv_at hl 2 rfl) ?_
      refine lv_iconst (v := 2) hx hb d_Q_shifted_24 (by decide) ?_
      refine lv_icmp_eq (tgt := 33) hx hb d_Q_shifted_25 (by decide) (fun hc => ?_) (fun hc => ?_)
      · have hk := hk.1 hc
        exact hj6 _ _ _  hk hw (lv_sub hl [1, 2, 3, 0] rfl)
      · have hk := hk.2 hc
        refine lv_iload_n hx hb d_Q_shifted_28 rfl (lv_at hl 2 rfl) ?_
        refine lv_iconst (v := 4) hx hb d_Q_shifted_29 (by decide) ?_
        refine lv_icmp_ne (tgt := 37) hx hb d_Q_shifted_30 (by decide) (fun hc => ?_) (fun hc => ?_)
        · have hk := hk.1 hc
          refine lv_iconst (v := 0) hx hb d_Q_shifted_37 (by decide) ?_
          exact hj2 _ _ _ _ hk hw (lv_sub hl [1, 2, 3, 0] rfl)
        · have hk := hk.2 hc
          exact hj6 _ _ _  hk hw (lv_sub hl [1, 2, 3, 0] rfl)
  refine lv_if_eq (tgt := 17) hx hb d_Q_shifted_10 (by decide) (fun hc => ?_) (fun hc => ?_)
  · have hk := hk.1 hc
    refine lv_iconst (v := 0) hx hb d_Q_shifted_17 (by decide) ?_
    exact hj1 _ _ _ _ hk hw (lv_sub hl [0, 1, 2] rfl)
  · have hk := hk.2 hc
    refine lv_iconst (v := 1) hx hb d_Q_shifted_13 (by decide) ?_
    refine lv_goto (tgt := 18) hx hb d_Q_shifted_14 (by decide) ?_
    exact hj1 _ _ _ _ hk hw (lv_sub hl [0, 1, 2] rfl)
set_option maxHeartbeats 4000000 in
set_option maxRecDepth 100000 in
theorem ct_Q_changeA {l : Launch} {D : va_G} {cA : ClassId} {ad tb : Nat → Nat} (M0 : Mem) (a1 : Int32) (Q : Mem → Prop) (hk : wp_Q_changeA M0 a1 Q) : Ct l y_Q_changeA ws_Q_changeA rm_Q_changeA D (ceC ad cA) cA tb [.ref (ad 5), .int a1] M0 (QV Q) := by
  refine Ct.of (own := "TileConsole$Processor") (cc := b_Q_changeA) (maxL := 3) (ret := none) ceC_fix (by decide) rfl rfl (Nat.le_of_ble_eq_true rfl) ?_
  intro p e s m args below meth c A QQ ls H locs hQQ hC hr hlk hw hl
  have hx := hC.1.1
  have hb := hC.1.2.1
  unfold wp_Q_changeA at hk
  have hl : lv_has ls 3 [(0, .ref (ad 5)), (1, .int a1)] := hl
  refine lv_aload_n hx hb d_Q_changeA_0 rfl (lv_at hl 0 rfl) ?_
  refine g_Q_r hC hw m_26 d_Q_changeA_1 ?_
  refine lv_bipush (v := 6) hx hb d_Q_changeA_4 (by decide) ?_
  refine ld_17 (k := 6) hC hw (vin_lit rfl) (by decide) d_Q_changeA_6 ?_
  refine lv_topi (fun x1 e_x1 => ?_)
  have hk := hk x1 e_x1
  refine lv_istore_n (lv' := [(2, .int x1), (0, .ref (ad 5)), (1, .int a1)]) hx hb d_Q_changeA_7 rfl hl (by decide) rfl (fun ls hl => ?_)
  refine lv_iload_n hx hb d_Q_changeA_8 rfl (lv_at hl 2 rfl) ?_
  have hj1 : ∀ (H : Heap) (locs : List Loc) (ls : Array Slot) (M12 : Mem), wp_Q_changeA_j1 M12 Q → Wd D (ceC ad cA) A s H locs M12 → lv_has ls 3 [(0, .ref (ad 5)), (1, .int a1), (2, .int x1)] → W p l e rm_Q_changeA s m args below meth c H locs 0 0 QQ (F0 m 144 ls []) := by
    intro H locs ls M12 hk hw hl
    unfold wp_Q_changeA_j1 at hk
    exact rt_v hQQ hx hb hr hlk hw ⟨rfl, hk⟩ d_Q_changeA_144
  by_cases hs1 : (a1 = (4 : Int32))
  · have hk := hk.1 hs1
    refine lv_tableIn (x := a1) (off := 31) (tgt := 40) hx hb d_Q_changeA_9 (by rw [hs1]; decide) (by rw [hs1]; decide) (by rw [hs1]; decide) (by decide) ?_
    refine lv_aload_n hx hb d_Q_changeA_40 rfl (lv_at hl 1 rfl) ?_
    refine cl_Vv (j := 5) (As := []) hC hw (ct_Q_adjustDecimal _  _ hk) m_92 mw_Q_adjustDecimal rfl ⟨rfl, rfl, Nat.le_of_ble_eq_true rfl, Nat.le_of_ble_eq_true rfl⟩ rfl rfl rfl hl.1 rfl (Nat.le_of_ble_eq_true rfl) d_Q_changeA_41 (fun H locs M13 hk hw => ?_)
    refine lv_goto (tgt := 144) hx hb d_Q_changeA_44 (by decide) ?_
    exact hj1 _ _ _ _ hk hw (lv_sub hl [1, 2, 0] rfl)
  · have hk := hk.2 hs1
    by_cases hs2 : (a1 = (5 : Int32))
    · have hk := hk.1 hs2
      refine lv_tableIn (x := a1) (off := 38) (tgt := 47) hx hb d_Q_changeA_9 (by rw [hs2]; decide) (by rw [hs2]; decide) (by rw [hs2]; decide) (by decide) ?_
      refine lv_aload_n hx hb d_Q_changeA_47 rfl (lv_at hl 1 rfl) ?_
      refine g_Q_r hC hw m_26 d_Q_changeA_48 ?_
      refine lv_bipush (v := 7) hx hb d_Q_changeA_51 (by decide) ?_
      refine lv_dup2_11 hx hb d_Q_changeA_53 rfl rfl ?_
      refine ld_17 (k := 7) hC hw (vin_lit rfl) (by decide) d_Q_changeA_54 ?_
      refine lv_sipush (v := 255) hx hb d_Q_changeA_55 (by decide) ?_
      refine lv_ixor hx hb d_Q_changeA_58 ?_
      refine st_17 (k := 7) hC hw (vin_lit rfl) (by decide) d_Q_changeA_59 (fun H locs M14 e_M14 hw => ?_)
      have hk := hk M14 e_M14
      refine lv_aload_n hx hb d_Q_changeA_60 rfl (lv_at hl 1 rfl) ?_
      refine g_Q_r hC hw m_26 d_Q_changeA_61 ?_
      refine lv_bipush (v := 6) hx hb d_Q_changeA_64 (by decide) ?_
      refine lv_iload_n hx hb d_Q_changeA_66 rfl (lv_at hl 0 rfl) ?_
      refine lv_bipush (v := 64) hx hb d_Q_changeA_67 (by decide) ?_
      refine lv_ior hx hb d_Q_changeA_69 ?_
      refine lv_bipush (v := 32) hx hb d_Q_changeA_70 (by decide) ?_
      refine lv_ior hx hb d_Q_changeA_72 ?_
      refine st_17 (k := 6) hC hw (vin_lit rfl) (by decide) d_Q_changeA_73 (fun H locs M15 e_M15 hw => ?_)
      have hk := hk M15 e_M15
      refine lv_goto (tgt := 144) hx hb d_Q_changeA_74 (by decide) ?_
      exact hj1 _ _ _ _ hk hw (lv_sub hl [1, 2, 0] rfl)
    · have hk := hk.2 hs2
      by_cases hs3 : (a1 = (6 : Int32))
      · have hk := hk.1 hs3
        refine lv_tableIn (x := a1) (off := 68) (tgt := 77) hx hb d_Q_changeA_9 (by rw [hs3]; decide) (by rw [hs3]; decide) (by rw [hs3]; decide) (by decide) ?_
        refine lv_aload_n hx hb d_Q_changeA_77 rfl (lv_at hl 1 rfl) ?_
        refine g_Q_r hC hw m_26 d_Q_changeA_78 ?_
        refine lv_bipush (v := 6) hx hb d_Q_changeA_81 (by decide) ?_
        refine lv_iload_n hx hb d_Q_changeA_83 rfl (lv_at hl 0 rfl) ?_
        refine lv_sipush (v := 128) hx hb d_Q_changeA_84 (by decide) ?_
        refine lv_iand hx hb d_Q_changeA_87 ?_
        refine lv_bipush (v := 16) hx hb d_Q_changeA_88 (by decide) ?_
        refine lv_ior hx hb d_Q_changeA_90 ?_
        refine st_17 (k := 6) hC hw (vin_lit rfl) (by decide) d_Q_changeA_91 (fun H locs M16 e_M16 hw => ?_)
        have hk := hk M16 e_M16
        refine lv_goto (tgt := 144) hx hb d_Q_changeA_92 (by decide) ?_
        exact hj1 _ _ _ _ hk hw (lv_sub hl [1, 2, 0] rfl)
      · have hk := hk.2 hs3
        by_cases hs4 : (a1 = (7 : Int32))
        · have hk := hk.1 hs4
          refine lv_tableIn (x := a1) (off := 86) (tgt := 95) hx hb d_Q_changeA_9 (by rw [hs4]; decide) (by rw [hs4]; decide) (by rw [hs4]; decide) (by decide) ?_
          refine lv_aload_n hx hb d_Q_changeA_95 rfl (lv_at hl 1 rfl) ?_
          refine g_Q_r hC hw m_26 d_Q_changeA_96 ?_
          refine lv_bipush (v := 6) hx hb d_Q_changeA_99 (by decide) ?_
          refine lv_iload_n hx hb d_Q_changeA_101 rfl (lv_at hl 0 rfl) ?_
          refine lv_sipush (v := 144) hx hb d_Q_changeA_102 (by decide) ?_
          refine lv_iand hx hb d_Q_changeA_105 ?_
          refine lv_bipush (v := 16) hx hb d_Q_changeA_106 (by decide) ?_
          refine lv_ixor hx hb d_Q_changeA_108 ?_
          refine st_17 (k := 6) hC hw (vin_lit rfl) (by decide) d_Q_changeA_109 (fun H locs M17 e_M17 hw => ?_)
          have hk := hk M17 e_M17
          refine lv_goto (tgt := 144) hx hb d_Q_changeA_110 (by decide) ?_
          exact hj1 _ _ _ _ hk hw (lv_sub hl [1, 2, 0] rfl)
        · have hk := hk.2 hs4
          refine lv_tableOut (x := a1) (tgt := 113) hx hb d_Q_changeA_9 (by have hz := (⟨lv_neT hs1 (show ((4 : Int32)).toInt = 4 by decide), lv_neT hs2 (show ((5 : Int32)).toInt = 5 by decide), lv_neT hs3 (show ((6 : Int32)).toInt = 6 by decide), lv_neT hs4 (show ((7 : Int32)).toInt = 7 by decide)⟩ : ¬ (a1).toInt = 4 ∧ ¬ (a1).toInt = 5 ∧ ¬ (a1).toInt = 6 ∧ ¬ (a1).toInt = 7); omega) (by decide) ?_
          refine lv_aload_n hx hb d_Q_changeA_113 rfl (lv_at hl 1 rfl) ?_
          refine g_Q_r hC hw m_26 d_Q_changeA_114 ?_
          refine lv_bipush (v := 7) hx hb d_Q_changeA_117 (by decide) ?_
          refine lv_aload_n hx hb d_Q_changeA_119 rfl (lv_at hl 1 rfl) ?_
          refine lv_iload_n hx hb d_Q_changeA_120 rfl (lv_at hl 2 rfl) ?_
          refine lv_aload_n hx hb d_Q_changeA_121 rfl (lv_at hl 1 rfl) ?_
          refine g_Q_r hC hw m_26 d_Q_changeA_122 ?_
          refine lv_bipush (v := 7) hx hb d_Q_changeA_125 (by decide) ?_
          refine ld_17 (k := 7) hC hw (vin_lit rfl) (by decide) d_Q_changeA_127 ?_
          refine cl_Vi (j := 5) (As := [.int a1, .int (M0 17 7)]) hC hw (ct_Q_shifted _ _ _ _ hk) m_93 mw_Q_shifted rfl ⟨rfl, rfl, Nat.le_of_ble_eq_true rfl, Nat.le_of_ble_eq_true rfl⟩ rfl rfl rfl hl.1 rfl (Nat.le_of_ble_eq_true rfl) d_Q_changeA_128 (fun H locs x18 M19 hk hw => ?_)
          refine st_17 (k := 7) hC hw (vin_lit rfl) (by decide) d_Q_changeA_131 (fun H locs M20 e_M20 hw => ?_)
          have hk := hk M20 e_M20
          refine lv_aload_n hx hb d_Q_changeA_132 rfl (lv_at hl 1 rfl) ?_
          refine g_Q_r hC hw m_26 d_Q_changeA_133 ?_
          refine lv_bipush (v := 6) hx hb d_Q_changeA_136 (by decide) ?_
          refine lv_dup2_11 hx hb d_Q_changeA_138 rfl rfl ?_
          refine ld_17 (k := 6) hC hw (vin_lit rfl) (by decide) d_Q_changeA_139 ?_
          refine lv_bipush (v := 16) hx hb d_Q_changeA_140 (by decide) ?_
          refine lv_iand hx hb d_Q_changeA_142 ?_
          refine st_17 (k := 6) hC hw (vin_lit rfl) (by decide) d_Q_changeA_143 (fun H locs M21 e_M21 hw => ?_)
          have hk := hk M21 e_M21
          exact hj1 _ _ _ _ hk hw (lv_sub hl [1, 2, 0] rfl)
set_option maxHeartbeats 4000000 in
set_option maxRecDepth 100000 in
theorem ct_Q_doLow {l : Launch} {D : va_G} {cA : ClassId} {ad tb : Nat → Nat} (M0 : Mem) (a1 : Int32) (a2 : Int32) (Q : Mem → Prop) (hk : wp_Q_doLow M0 a1 a2 Q) : Ct l y_Q_doLow ws_Q_doLow rm_Q_doLow D (ceC ad cA) cA tb [.ref (ad 5), .int a1, .int a2] M0 (QV Q) := by
  refine Ct.of (own := "TileConsole$Processor") (cc := b_Q_doLow) (maxL := 6) (ret := none) ceC_fix (by decide) rfl rfl (Nat.le_of_ble_eq_true rfl) ?_
  intro p e s m args below meth c A QQ ls H locs hQQ hC hr hlk hw hl
  have hx := hC.1.1
  have hb := hC.1.2.1
  unfold wp_Q_doLow at hk
  have hl : lv_has ls 6 [(0, .ref (ad 5)), (1, .int a1), (2, .int a2)] := hl
  refine lv_iload_n hx hb d_Q_doLow_0 rfl (lv_at hl 1 rfl) ?_
  refine lv_iconst (v := 1) hx hb d_Q_doLow_1 (by decide) ?_
  refine lv_ishr hx hb d_Q_doLow_2 ?_
  refine lv_topi (fun x1 e_x1 => ?_)
  have hk := hk x1 e_x1
  refine lv_istore_n (lv' := [(3, .int x1), (0, .ref (ad 5)), (1, .int a1), (2, .int a2)]) hx hb d_Q_doLow_3 rfl hl (by decide) rfl (fun ls hl => ?_)
  refine lv_iload_n hx hb d_Q_doLow_4 rfl (lv_at hl 2 rfl) ?_
  refine lv_iconst (v := 1) hx hb d_Q_doLow_5 (by decide) ?_
  refine lv_iand hx hb d_Q_doLow_6 ?_
  have hj1 : ∀ (H : Heap) (locs : List Loc) (ls : Array Slot) (x101 : Int32), wp_Q_doLow_j1 M0 a1 a2 x1 x101 Q → Wd D (ceC ad cA) A s H locs M0 → lv_has ls 6 [(0, .ref (ad 5)), (1, .int a1), (2, .int a2), (3, .int x1)] → W p l e rm_Q_doLow s m args below meth c H locs 0 0 QQ (F0 m 15 ls [.int x101]) := by
    intro H locs ls x101 hk hw hl
    unfold wp_Q_doLow_j1 at hk
    refine lv_istore (lv' := [(4, .int x101), (0, .ref (ad 5)), (1, .int a1), (2, .int a2), (3, .int x1)]) hx hb d_Q_doLow_15 hl (by decide) rfl (fun ls hl => ?_)
    refine lv_iload_n hx hb d_Q_doLow_17 rfl (lv_at hl 3 rfl) ?_
    have hj2 : ∀ (H : Heap) (locs : List Loc) (ls : Array Slot) (M151 : Mem), wp_Q_doLow_j2 M151 Q → Wd D (ceC ad cA) A s H locs M151 → lv_has ls 6 [(0, .ref (ad 5)), (1, .int a1), (2, .int a2), (3, .int x1), (4, .int x101)] → W p l e rm_Q_doLow s m args below meth c H locs 0 0 QQ (F0 m 300 ls []) := by
      intro H locs ls M151 hk hw hl
      unfold wp_Q_doLow_j2 at hk
      exact rt_v hQQ hx hb hr hlk hw ⟨rfl, hk⟩ d_Q_doLow_300
    by_cases hs8 : (a2 = (0 : Int32))
    · have hk := hk.1 hs8
      refine lv_tableIn (x := a2) (off := 42) (tgt := 60) hx hb d_Q_doLow_18 (by rw [hs8]; decide) (by rw [hs8]; decide) (by rw [hs8]; decide) (by decide) ?_
      refine lv_iload_n hx hb d_Q_doLow_60 rfl (lv_at hl 2 rfl) ?_
      refine lv_iconst (v := 1) hx hb d_Q_doLow_61 (by decide) ?_
      refine lv_icmp_ne (tgt := 76) hx hb d_Q_doLow_62 (by decide) (fun hc => ?_) (fun hc => ?_)
      · have hk := hk.1 hc
        refine lv_iload_n hx hb d_Q_doLow_76 rfl (lv_at hl 2 rfl) ?_
        refine lv_iconst (v := 2) hx hb d_Q_doLow_77 (by decide) ?_
        refine lv_icmp_ne (tgt := 96) hx hb d_Q_doLow_78 (by decide) (fun hc => ?_) (fun hc => ?_)
        · have hk := hk.1 hc
          refine lv_iload_n hx hb d_Q_doLow_96 rfl (lv_at hl 2 rfl) ?_
          refine lv_iconst (v := 3) hx hb d_Q_doLow_97 (by decide) ?_
          refine lv_icmp_lt (tgt := 300) hx hb d_Q_doLow_98 (by decide) (fun hc => ?_) (fun hc => ?_)
          · have hk := hk.1 hc
            exact hj2 _ _ _ _ hk hw (lv_sub hl [1, 2, 3, 4, 0] rfl)
          · have hk := hk.2 hc
            refine lv_aload_n hx hb d_Q_doLow_101 rfl (lv_at hl 1 rfl) ?_
            refine cl_Vi (j := 5) (As := []) hC hw (ct_Q_fetch _  _ hk) m_89 mw_Q_fetch rfl ⟨rfl, rfl, Nat.le_of_ble_eq_true rfl, Nat.le_of_ble_eq_true rfl⟩ rfl rfl rfl hl.1 rfl (Nat.le_of_ble_eq_true rfl) d_Q_doLow_102 (fun H locs x152 M153 hk hw => ?_)
            refine lv_i2b hx hb d_Q_doLow_105 rfl ?_
            refine lv_topi (fun x154 e_x154 => ?_)
            have hk := hk x154 e_x154
            refine lv_istore (lv' := [(5, .int x154), (4, .int x101), (0, .ref (ad 5)), (1, .int a1), (2, .int a2), (3, .int x1)]) hx hb d_Q_doLow_106 hl (by decide) rfl (fun ls hl => ?_)
            refine lv_aload_n hx hb d_Q_doLow_108 rfl (lv_at hl 2 rfl) ?_
            refine lv_iload_n hx hb d_Q_doLow_109 rfl (lv_at hl 3 rfl) ?_
            refine lv_iconst (v := 3) hx hb d_Q_doLow_110 (by decide) ?_
            have hj3 : ∀ (H : Heap) (locs : List Loc) (ls : Array Slot) (x158 : Int32), wp_Q_doLow_j3 M153 x154 x158 Q → Wd D (ceC ad cA) A s H locs M153 → lv_has ls 6 [(0, .ref (ad 5)), (1, .int a1), (2, .int a2), (3, .int x1), (4, .int x101), (5, .int x154)] → W p l e rm_Q_doLow s m args below meth c H locs 0 0 QQ (F0 m 129 ls [.int x158, .ref (ad 5)]) := by
              intro H locs ls x158 hk hw hl
              unfold wp_Q_doLow_j3 at hk
              refine lv_aload_n hx hb d_Q_doLow_129 rfl (lv_at hl 0 rfl) ?_
              refine g_Q_pc hC hw m_31 d_Q_doLow_130 ?_
              refine lv_iload hx hb d_Q_doLow_133 (lv_at hl 5 rfl) ?_
              refine lv_iadd hx hb d_Q_doLow_135 ?_
              refine cl_Vv (j := 5) (As := [.int x158, .int ((M153 5 8) + x154)]) hC hw (ct_Q_jump _ _ _ _ hk) m_95 mw_Q_jump rfl ⟨rfl, rfl, Nat.le_of_ble_eq_true rfl, Nat.le_of_ble_eq_true rfl⟩ rfl rfl rfl hl.1 rfl (Nat.le_of_ble_eq_true rfl) d_Q_doLow_136 (fun H locs M159 hk hw => ?_)
              refine lv_goto (tgt := 300) hx hb d_Q_doLow_139 (by decide) ?_
              exact hj2 _ _ _ _ hk hw (lv_sub hl [0, 1, 2, 3, 4] rfl)
            have hj4 : ∀ (H : Heap) (locs : List Loc) (ls : Array Slot), wp_Q_doLow_j4 M153 x154 Q → Wd D (ceC ad cA) A s H locs M153 → lv_has ls 6 [(0, .ref (ad 5)), (1, .int a1), (2, .int a2), (3, .int x1), (4, .int x101), (5, .int x154)] → W p l e rm_Q_doLow s m args below meth c H locs 0 0 QQ (F0 m 124 ls [.ref (ad 5)]) := by
              intro H locs ls  hk hw hl
              unfold wp_Q_doLow_j4 at hk
              refine lv_iconst (v := 1) hx hb d_Q_doLow_124 (by decide) ?_
              refine lv_goto (tgt := 129) hx hb d_Q_doLow_125 (by decide) ?_
              exact hj3 _ _ _ _ hk hw (lv_sub hl [0, 1, 2, 3, 4, 5] rfl)
            refine lv_icmp_eq (tgt := 124) hx hb d_Q_doLow_111 (by decide) (fun hc => ?_) (fun hc => ?_)
            · have hk := hk.1 hc
              exact hj4 _ _ _  hk hw (lv_sub hl [2, 3, 4, 5, 1, 0] rfl)
            · have hk := hk.2 hc
              refine lv_aload_n hx hb d_Q_doLow_114 rfl (lv_at hl 2 rfl) ?_
              refine lv_iload_n hx hb d_Q_doLow_115 rfl (lv_at hl 3 rfl) ?_
              refine lv_iconst (v := 4) hx hb d_Q_doLow_116 (by decide) ?_
              refine lv_isub hx hb d_Q_doLow_117 ?_
              refine cl_Vip (j := 5) (As := [.int (a1 - (4 : Int32))]) hC hw (ct_Q_holds _ _ _ hk) m_94 mw_Q_holds rfl ⟨rfl, rfl, Nat.le_of_ble_eq_true rfl, Nat.le_of_ble_eq_true rfl⟩ rfl rfl rfl hl.1 rfl (Nat.le_of_ble_eq_true rfl) d_Q_doLow_118 (fun H locs x160 hk hw => ?_)
              refine lv_if_eq (tgt := 128) hx hb d_Q_doLow_121 (by decide) (fun hc => ?_) (fun hc => ?_)
              · have hk := hk.1 hc
                refine lv_iconst (v := 0) hx hb d_Q_doLow_128 (by decide) ?_
                exact hj3 _ _ _ _ hk hw (lv_sub hl [2, 3, 4, 5, 1, 0] rfl)
              · have hk := hk.2 hc
                exact hj4 _ _ _  hk hw (lv_sub hl [2, 3, 4, 5, 1, 0] rfl)
        · have hk := hk.2 hc
          refine lv_aload_n hx hb d_Q_doLow_81 rfl (lv_at hl 1 rfl) ?_
          refine cl_Vi (j := 5) (As := []) hC hw (ct_Q_fetch _  _ hk) m_89 mw_Q_fetch rfl ⟨rfl, rfl, Nat.le_of_ble_eq_true rfl, Nat.le_of_ble_eq_true rfl⟩ rfl rfl rfl hl.1 rfl (Nat.le_of_ble_eq_true rfl) d_Q_doLow_82 (fun H locs x161 M162 hk hw => ?_)
          refine lv_pop hx hb d_Q_doLow_85 rfl ?_
          refine lv_aload_n hx hb d_Q_doLow_86 rfl (lv_at hl 1 rfl) ?_
          refine g_Q_ports hC hw m_77 d_Q_doLow_87 ?_
          refine cl_Vv (j := 2) (As := []) hC hw (ct_P_clearDivider _  _ hk) m_96 mw_P_clearDivider rfl ⟨rfl, rfl, Nat.le_of_ble_eq_true rfl, Nat.le_of_ble_eq_true rfl⟩ rfl rfl rfl hl.1 rfl (Nat.le_of_ble_eq_true rfl) d_Q_doLow_90 (fun H locs M163 hk hw => ?_)
          refine lv_goto (tgt := 300) hx hb d_Q_doLow_93 (by decide) ?_
          exact hj2 _ _ _ _ hk hw (lv_sub hl [1, 2, 3, 4, 0] rfl)
      · have hk := hk.2 hc
        refine lv_aload_n hx hb d_Q_doLow_65 rfl (lv_at hl 1 rfl) ?_
        refine lv_aload_n hx hb d_Q_doLow_66 rfl (lv_at hl 1 rfl) ?_
        refine cl_Vi (j := 5) (As := []) hC hw (ct_Q_fetchWord _  _ hk) m_97 mw_Q_fetchWord rfl ⟨rfl, rfl, Nat.le_of_ble_eq_true rfl, Nat.le_of_ble_eq_true rfl⟩ rfl rfl rfl hl.1 rfl (Nat.le_of_ble_eq_true rfl) d_Q_doLow_67 (fun H locs x164 M165 hk hw => ?_)
        refine cl_Vv (j := 5) (As := [.int x164]) hC hw (ct_Q_storeStackPointer _ _ _ hk) m_98 mw_Q_storeStackPointer rfl ⟨rfl, rfl, Nat.le_of_ble_eq_true rfl, Nat.le_of_ble_eq_true rfl⟩ rfl rfl rfl hl.1 rfl (Nat.le_of_ble_eq_true rfl) d_Q_doLow_70 (fun H locs M166 hk hw => ?_)
        refine lv_goto (tgt := 300) hx hb d_Q_doLow_73 (by decide) ?_
        exact hj2 _ _ _ _ hk hw (lv_sub hl [1, 2, 3, 4, 0] rfl)
    · have hk := hk.2 hs8
      by_cases hs9 : (a2 = (1 : Int32))
      · have hk := hk.1 hs9
        refine lv_tableIn (x := a2) (off := 124) (tgt := 142) hx hb d_Q_doLow_18 (by rw [hs9]; decide) (by rw [hs9]; decide) (by rw [hs9]; decide) (by decide) ?_
        refine lv_iload hx hb d_Q_doLow_142 (lv_at hl 0 rfl) ?_
        refine lv_if_eq (tgt := 159) hx hb d_Q_doLow_144 (by decide) (fun hc => ?_) (fun hc => ?_)
        · have hk := hk.1 hc
          refine lv_aload_n hx hb d_Q_doLow_159 rfl (lv_at hl 1 rfl) ?_
          refine lv_iload_n hx hb d_Q_doLow_160 rfl (lv_at hl 4 rfl) ?_
          refine lv_aload_n hx hb d_Q_doLow_161 rfl (lv_at hl 1 rfl) ?_
          refine cl_Vi (j := 5) (As := []) hC hw (ct_Q_fetchWord _  _ hk) m_97 mw_Q_fetchWord rfl ⟨rfl, rfl, Nat.le_of_ble_eq_true rfl, Nat.le_of_ble_eq_true rfl⟩ rfl rfl rfl hl.1 rfl (Nat.le_of_ble_eq_true rfl) d_Q_doLow_162 (fun H locs x167 M168 hk hw => ?_)
          refine cl_Vv (j := 5) (As := [.int x1, .int x167]) hC hw (ct_Q_setPair _ _ _ _ hk) m_29 mw_Q_setPair rfl ⟨rfl, rfl, Nat.le_of_ble_eq_true rfl, Nat.le_of_ble_eq_true rfl⟩ rfl rfl rfl hl.1 rfl (Nat.le_of_ble_eq_true rfl) d_Q_doLow_165 (fun H locs M169 hk hw => ?_)
          refine lv_goto (tgt := 300) hx hb d_Q_doLow_168 (by decide) ?_
          exact hj2 _ _ _ _ hk hw (lv_sub hl [1, 2, 3, 4, 0] rfl)
        · have hk := hk.2 hc
          refine lv_aload_n hx hb d_Q_doLow_147 rfl (lv_at hl 1 rfl) ?_
          refine lv_aload_n hx hb d_Q_doLow_148 rfl (lv_at hl 1 rfl) ?_
          refine lv_iload_n hx hb d_Q_doLow_149 rfl (lv_at hl 4 rfl) ?_
          refine cl_Vip (j := 5) (As := [.int x1]) hC hw (ct_Q_pair _ _ _ hk) m_90 mw_Q_pair rfl ⟨rfl, rfl, Nat.le_of_ble_eq_true rfl, Nat.le_of_ble_eq_true rfl⟩ rfl rfl rfl hl.1 rfl (Nat.le_of_ble_eq_true rfl) d_Q_doLow_150 (fun H locs x170 hk hw => ?_)
          refine cl_Vv (j := 5) (As := [.int x170]) hC hw (ct_Q_addToHl _ _ _ hk) m_99 mw_Q_addToHl rfl ⟨rfl, rfl, Nat.le_of_ble_eq_true rfl, Nat.le_of_ble_eq_true rfl⟩ rfl rfl rfl hl.1 rfl (Nat.le_of_ble_eq_true rfl) d_Q_doLow_153 (fun H locs M171 hk hw => ?_)
          refine lv_goto (tgt := 300) hx hb d_Q_doLow_156 (by decide) ?_
          exact hj2 _ _ _ _ hk hw (lv_sub hl [1, 2, 3, 4, 0] rfl)
      · have hk := hk.2 hs9
        by_cases hs10 : (a2 = (2 : Int32))
        · have hk := hk.1 hs10
          refine lv_tableIn (x := a2) (off := 153) (tgt := 171) hx hb d_Q_doLow_18 (by rw [hs10]; decide) (by rw [hs10]; decide) (by rw [hs10]; decide) (by decide) ?_
          refine lv_aload_n hx hb d_Q_doLow_171 rfl (lv_at hl 1 rfl) ?_
          refine lv_aload_n hx hb d_Q_doLow_172 rfl (lv_at hl 1 rfl) ?_
          refine lv_iload_n hx hb d_Q_doLow_173 rfl (lv_at hl 4 rfl) ?_
          refine lv_iconst (v := 2) hx hb d_Q_doLow_174 (by decide) ?_
          refine va_mmin hx hb (by rw [hC.1.2.2.1]; exact hl.1.symm) hC.1.2.2.2.1 (hC.1.2.2.2.2 _ m_100) (hC.1.2.2.2.2 _ m_101) (hC.1.2.2.2.2 _ m_102) (hC.1.2.2.2.2 _ m_103) (Nat.le_of_ble_eq_true rfl) (Nat.le_of_ble_eq_true rfl) (Nat.zero_le _) (Nat.zero_le _) d_Q_doLow_175 ?_
          refine cl_Vip (j := 5) (As := [.int (if (2 : Int32) < x1 then (2 : Int32) else x1)]) hC hw (ct_Q_pair _ _ _ hk) m_90 mw_Q_pair rfl ⟨rfl, rfl, Nat.le_of_ble_eq_true rfl, Nat.le_of_ble_eq_true rfl⟩ rfl rfl rfl hl.1 rfl (Nat.le_of_ble_eq_true rfl) d_Q_doLow_178 (fun H locs x172 hk hw => ?_)
          refine lv_iload hx hb d_Q_doLow_181 (lv_at hl 0 rfl) ?_
          refine cl_Vv (j := 5) (As := [.int x172, .int x101]) hC hw (ct_Q_copyA _ _ _ _ hk) m_104 mw_Q_copyA rfl ⟨rfl, rfl, Nat.le_of_ble_eq_true rfl, Nat.le_of_ble_eq_true rfl⟩ rfl rfl rfl hl.1 rfl (Nat.le_of_ble_eq_true rfl) d_Q_doLow_183 (fun H locs M173 hk hw => ?_)
          refine lv_iload_n hx hb d_Q_doLow_186 rfl (lv_at hl 4 rfl) ?_
          refine lv_iconst (v := 2) hx hb d_Q_doLow_187 (by decide) ?_
          refine lv_icmp_lt (tgt := 300) hx hb d_Q_doLow_188 (by decide) (fun hc => ?_) (fun hc => ?_)
          · have hk := hk.1 hc
            exact hj2 _ _ _ _ hk hw (lv_sub hl [1, 2, 3, 4, 0] rfl)
          · have hk := hk.2 hc
            refine lv_aload_n hx hb d_Q_doLow_191 rfl (lv_at hl 1 rfl) ?_
            refine lv_iconst (v := 2) hx hb d_Q_doLow_192 (by decide) ?_
            refine lv_aload_n hx hb d_Q_doLow_193 rfl (lv_at hl 1 rfl) ?_
            refine lv_iconst (v := 2) hx hb d_Q_doLow_194 (by decide) ?_
            refine cl_Vip (j := 5) (As := [.int (2 : Int32)]) hC hw (ct_Q_pair _ _ _ hk) m_90 mw_Q_pair rfl ⟨rfl, rfl, Nat.le_of_ble_eq_true rfl, Nat.le_of_ble_eq_true rfl⟩ rfl rfl rfl hl.1 rfl (Nat.le_of_ble_eq_true rfl) d_Q_doLow_195 (fun H locs x174 hk hw => ?_)
            refine lv_iload_n hx hb d_Q_doLow_198 rfl (lv_at hl 4 rfl) ?_
            refine lv_iconst (v := 2) hx hb d_Q_doLow_199 (by decide) ?_
            have hj5 : ∀ (H : Heap) (locs : List Loc) (ls : Array Slot) (x177 : Int32), wp_Q_doLow_j5 M173 x174 x177 Q → Wd D (ceC ad cA) A s H locs M173 → lv_has ls 6 [(0, .ref (ad 5)), (1, .int a1), (2, .int a2), (3, .int x1), (4, .int x101)] → W p l e rm_Q_doLow s m args below meth c H locs 0 0 QQ (F0 m 208 ls [.int x177, .int x174, .int (2 : Int32), .ref (ad 5)]) := by
              intro H locs ls x177 hk hw hl
              unfold wp_Q_doLow_j5 at hk
              refine lv_iadd hx hb d_Q_doLow_208 ?_
              refine cl_Vv (j := 5) (As := [.int (2 : Int32), .int (x174 + x177)]) hC hw (ct_Q_setPair _ _ _ _ hk) m_29 mw_Q_setPair rfl ⟨rfl, rfl, Nat.le_of_ble_eq_true rfl, Nat.le_of_ble_eq_true rfl⟩ rfl rfl rfl hl.1 rfl (Nat.le_of_ble_eq_true rfl) d_Q_doLow_209 (fun H locs M178 hk hw => ?_)
              refine lv_goto (tgt := 300) hx hb d_Q_doLow_212 (by decide) ?_
              exact hj2 _ _ _ _ hk hw (lv_sub hl [0, 1, 2, 3, 4] rfl)
            refine lv_icmp_ne (tgt := 207) hx hb d_Q_doLow_200 (by decide) (fun hc => ?_) (fun hc => ?_)
            · have hk := hk.1 hc
              refine lv_iconst (v := (-1)) hx hb d_Q_doLow_207 (by decide) ?_
              exact hj5 _ _ _ _ hk hw (lv_sub hl [1, 2, 3, 4, 0] rfl)
            · have hk := hk.2 hc
              refine lv_iconst (v := 1) hx hb d_Q_doLow_203 (by decide) ?_
              refine lv_goto (tgt := 208) hx hb d_Q_doLow_204 (by decide) ?_
              exact hj5 _ _ _ _ hk hw (lv_sub hl [1, 2, 3, 4, 0] rfl)
        · have hk := hk.2 hs10
          by_cases hs11 : (a2 = (3 : Int32))
          · have hk := hk.1 hs11
            refine lv_tableIn (x := a2) (off := 197) (tgt := 215) hx hb d_Q_doLow_18 (by rw [hs11]; decide) (by rw [hs11]; decide) (by rw [hs11]; decide) (by decide) ?_
            refine lv_aload_n hx hb d_Q_doLow_215 rfl (lv_at hl 1 rfl) ?_
            refine lv_iload_n hx hb d_Q_doLow_216 rfl (lv_at hl 4 rfl) ?_
            refine lv_aload_n hx hb d_Q_doLow_217 rfl (lv_at hl 1 rfl) ?_
            refine lv_iload_n hx hb d_Q_doLow_218 rfl (lv_at hl 4 rfl) ?_
            refine cl_Vip (j := 5) (As := [.int x1]) hC hw (ct_Q_pair _ _ _ hk) m_90 mw_Q_pair rfl ⟨rfl, rfl, Nat.le_of_ble_eq_true rfl, Nat.le_of_ble_eq_true rfl⟩ rfl rfl rfl hl.1 rfl (Nat.le_of_ble_eq_true rfl) d_Q_doLow_219 (fun H locs x179 hk hw => ?_)
            refine lv_iload hx hb d_Q_doLow_222 (lv_at hl 0 rfl) ?_
            have hj6 : ∀ (H : Heap) (locs : List Loc) (ls : Array Slot) (x183 : Int32), wp_Q_doLow_j6 M0 x1 x179 x183 Q → Wd D (ceC ad cA) A s H locs M0 → lv_has ls 6 [(0, .ref (ad 5)), (1, .int a1), (2, .int a2), (3, .int x1), (4, .int x101)] → W p l e rm_Q_doLow s m args below meth c H locs 0 0 QQ (F0 m 232 ls [.int x183, .int x179, .int x1, .ref (ad 5)]) := by
              intro H locs ls x183 hk hw hl
              unfold wp_Q_doLow_j6 at hk
              refine lv_iadd hx hb d_Q_doLow_232 ?_
              refine cl_Vv (j := 5) (As := [.int x1, .int (x179 + x183)]) hC hw (ct_Q_setPair _ _ _ _ hk) m_29 mw_Q_setPair rfl ⟨rfl, rfl, Nat.le_of_ble_eq_true rfl, Nat.le_of_ble_eq_true rfl⟩ rfl rfl rfl hl.1 rfl (Nat.le_of_ble_eq_true rfl) d_Q_doLow_233 (fun H locs M184 hk hw => ?_)
              refine lv_aload_n hx hb d_Q_doLow_236 rfl (lv_at hl 0 rfl) ?_
              refine lv_dup hx hb d_Q_doLow_237 rfl ?_
              refine g_Q_time hC hw m_76 d_Q_doLow_238 ?_
              refine lv_iconst (v := 1) hx hb d_Q_doLow_241 (by decide) ?_
              refine lv_iadd hx hb d_Q_doLow_242 ?_
              refine p_Q_time hC hw m_76 d_Q_doLow_243 (fun H locs M185 e_M185 hw => ?_)
              have hk := hk M185 e_M185
              refine lv_goto (tgt := 300) hx hb d_Q_doLow_246 (by decide) ?_
              exact hj2 _ _ _ _ hk hw (lv_sub hl [0, 1, 2, 3, 4] rfl)
            refine lv_if_eq (tgt := 231) hx hb d_Q_doLow_224 (by decide) (fun hc => ?_) (fun hc => ?_)
            · have hk := hk.1 hc
              refine lv_iconst (v := 1) hx hb d_Q_doLow_231 (by decide) ?_
              exact hj6 _ _ _ _ hk hw (lv_sub hl [1, 2, 3, 4, 0] rfl)
            · have hk := hk.2 hc
              refine lv_iconst (v := (-1)) hx hb d_Q_doLow_227 (by decide) ?_
              refine lv_goto (tgt := 232) hx hb d_Q_doLow_228 (by decide) ?_
              exact hj6 _ _ _ _ hk hw (lv_sub hl [1, 2, 3, 4, 0] rfl)
          · have hk := hk.2 hs11
            by_cases hs12 : (a2 = (4 : Int32))
            · have hk := hk.1 hs12
              refine lv_tableIn (x := a2) (off := 231) (tgt := 249) hx hb d_Q_doLow_18 (by rw [hs12]; decide) (by rw [hs12]; decide) (by rw [hs12]; decide) (by decide) ?_
              refine lv_aload_n hx hb d_Q_doLow_249 rfl (lv_at hl 1 rfl) ?_
              refine lv_iload_n hx hb d_Q_doLow_250 rfl (lv_at hl 2 rfl) ?_
              refine lv_aload_n hx hb d_Q_doLow_251 rfl (lv_at hl 1 rfl) ?_
              refine lv_aload_n hx hb d_Q_doLow_252 rfl (lv_at hl 1 rfl) ?_
              refine lv_iload_n hx hb d_Q_doLow_253 rfl (lv_at hl 2 rfl) ?_
              refine cl_Vi (j := 5) (As := [.int a1]) hC hw (ct_Q_octetAt _ _ _ hk) m_105 mw_Q_octetAt rfl ⟨rfl, rfl, Nat.le_of_ble_eq_true rfl, Nat.le_of_ble_eq_true rfl⟩ rfl rfl rfl hl.1 rfl (Nat.le_of_ble_eq_true rfl) d_Q_doLow_254 (fun H locs x186 M187 hk hw => ?_)
              refine cl_Vi (j := 5) (As := [.int x186]) hC hw (ct_Q_increased _ _ _ hk) m_106 mw_Q_increased rfl ⟨rfl, rfl, Nat.le_of_ble_eq_true rfl, Nat.le_of_ble_eq_true rfl⟩ rfl rfl rfl hl.1 rfl (Nat.le_of_ble_eq_true rfl) d_Q_doLow_257 (fun H locs x188 M189 hk hw => ?_)
              refine cl_Vv (j := 5) (As := [.int a1, .int x188]) hC hw (ct_Q_setOctet _ _ _ _ hk) m_107 mw_Q_setOctet rfl ⟨rfl, rfl, Nat.le_of_ble_eq_true rfl, Nat.le_of_ble_eq_true rfl⟩ rfl rfl rfl hl.1 rfl (Nat.le_of_ble_eq_true rfl) d_Q_doLow_260 (fun H locs M190 hk hw => ?_)
              refine lv_goto (tgt := 300) hx hb d_Q_doLow_263 (by decide) ?_
              exact hj2 _ _ _ _ hk hw (lv_sub hl [1, 2, 3, 4, 0] rfl)
            · have hk := hk.2 hs12
              by_cases hs13 : (a2 = (5 : Int32))
              · have hk := hk.1 hs13
                refine lv_tableIn (x := a2) (off := 248) (tgt := 266) hx hb d_Q_doLow_18 (by rw [hs13]; decide) (by rw [hs13]; decide) (by rw [hs13]; decide) (by decide) ?_
                refine lv_aload_n hx hb d_Q_doLow_266 rfl (lv_at hl 1 rfl) ?_
                refine lv_iload_n hx hb d_Q_doLow_267 rfl (lv_at hl 2 rfl) ?_
                refine lv_aload_n hx hb d_Q_doLow_268 rfl (lv_at hl 1 rfl) ?_
                refine lv_aload_n hx hb d_Q_doLow_269 rfl (lv_at hl 1 rfl) ?_
                refine lv_iload_n hx hb d_Q_doLow_270 rfl (lv_at hl 2 rfl) ?_
                refine cl_Vi (j := 5) (As := [.int a1]) hC hw (ct_Q_octetAt _ _ _ hk) m_105 mw_Q_octetAt rfl ⟨rfl, rfl, Nat.le_of_ble_eq_true rfl, Nat.le_of_ble_eq_true rfl⟩ rfl rfl rfl hl.1 rfl (Nat.le_of_ble_eq_true rfl) d_Q_doLow_271 (fun H locs x191 M192 hk hw => ?_)
                refine cl_Vi (j := 5) (As := [.int x191]) hC hw (ct_Q_decreased _ _ _ hk) m_108 mw_Q_decreased rfl ⟨rfl, rfl, Nat.le_of_ble_eq_true rfl, Nat.le_of_ble_eq_true rfl⟩ rfl rfl rfl hl.1 rfl (Nat.le_of_ble_eq_true rfl) d_Q_doLow_274 (fun H locs x193 M194 hk hw => ?_)
                refine cl_Vv (j := 5) (As := [.int a1, .int x193]) hC hw (ct_Q_setOctet _ _ _ _ hk) m_107 mw_Q_setOctet rfl ⟨rfl, rfl, Nat.le_of_ble_eq_true rfl, Nat.le_of_ble_eq_true rfl⟩ rfl rfl rfl hl.1 rfl (Nat.le_of_ble_eq_true rfl) d_Q_doLow_277 (fun H locs M195 hk hw => ?_)
                refine lv_goto (tgt := 300) hx hb d_Q_doLow_280 (by decide) ?_
                exact hj2 _ _ _ _ hk hw (lv_sub hl [1, 2, 3, 4, 0] rfl)
              · have hk := hk.2 hs13
                by_cases hs14 : (a2 = (6 : Int32))
                · have hk := hk.1 hs14
                  refine lv_tableIn (x := a2) (off := 265) (tgt := 283) hx hb d_Q_doLow_18 (by rw [hs14]; decide) (by rw [hs14]; decide) (by rw [hs14]; decide) (by decide) ?_
                  refine lv_aload_n hx hb d_Q_doLow_283 rfl (lv_at hl 1 rfl) ?_
                  refine lv_iload_n hx hb d_Q_doLow_284 rfl (lv_at hl 2 rfl) ?_
                  refine lv_aload_n hx hb d_Q_doLow_285 rfl (lv_at hl 1 rfl) ?_
                  refine cl_Vi (j := 5) (As := []) hC hw (ct_Q_fetch _  _ hk) m_89 mw_Q_fetch rfl ⟨rfl, rfl, Nat.le_of_ble_eq_true rfl, Nat.le_of_ble_eq_true rfl⟩ rfl rfl rfl hl.1 rfl (Nat.le_of_ble_eq_true rfl) d_Q_doLow_286 (fun H locs x196 M197 hk hw => ?_)
                  refine cl_Vv (j := 5) (As := [.int a1, .int x196]) hC hw (ct_Q_setOctet _ _ _ _ hk) m_107 mw_Q_setOctet rfl ⟨rfl, rfl, Nat.le_of_ble_eq_true rfl, Nat.le_of_ble_eq_true rfl⟩ rfl rfl rfl hl.1 rfl (Nat.le_of_ble_eq_true rfl) d_Q_doLow_289 (fun H locs M198 hk hw => ?_)
                  refine lv_goto (tgt := 300) hx hb d_Q_doLow_292 (by decide) ?_
                  exact hj2 _ _ _ _ hk hw (lv_sub hl [1, 2, 3, 4, 0] rfl)
                · have hk := hk.2 hs14
                  refine lv_tableOut (x := a2) (tgt := 295) hx hb d_Q_doLow_18 (by have hz := (⟨lv_neT hs8 (show ((0 : Int32)).toInt = 0 by decide), lv_neT hs9 (show ((1 : Int32)).toInt = 1 by decide), lv_neT hs10 (show ((2 : Int32)).toInt = 2 by decide), lv_neT hs11 (show ((3 : Int32)).toInt = 3 by decide), lv_neT hs12 (show ((4 : Int32)).toInt = 4 by decide), lv_neT hs13 (show ((5 : Int32)).toInt = 5 by decide), lv_neT hs14 (show ((6 : Int32)).toInt = 6 by decide)⟩ : ¬ (a2).toInt = 0 ∧ ¬ (a2).toInt = 1 ∧ ¬ (a2).toInt = 2 ∧ ¬ (a2).toInt = 3 ∧ ¬ (a2).toInt = 4 ∧ ¬ (a2).toInt = 5 ∧ ¬ (a2).toInt = 6); omega) (by decide) ?_
                  refine lv_aload_n hx hb d_Q_doLow_295 rfl (lv_at hl 1 rfl) ?_
                  refine lv_iload_n hx hb d_Q_doLow_296 rfl (lv_at hl 2 rfl) ?_
                  refine cl_Vv (j := 5) (As := [.int a1]) hC hw (ct_Q_changeA _ _ _ hk) m_109 mw_Q_changeA rfl ⟨rfl, rfl, Nat.le_of_ble_eq_true rfl, Nat.le_of_ble_eq_true rfl⟩ rfl rfl rfl hl.1 rfl (Nat.le_of_ble_eq_true rfl) d_Q_doLow_297 (fun H locs M199 hk hw => ?_)
                  exact hj2 _ _ _ _ hk hw (lv_sub hl [1, 2, 3, 4, 0] rfl)
  refine lv_if_eq (tgt := 14) hx hb d_Q_doLow_7 (by decide) (fun hc => ?_) (fun hc => ?_)
  · have hk := hk.1 hc
    refine lv_iconst (v := 0) hx hb d_Q_doLow_14 (by decide) ?_
    exact hj1 _ _ _ _ hk hw (lv_sub hl [1, 2, 3, 0] rfl)
  · have hk := hk.2 hc
    refine lv_iconst (v := 1) hx hb d_Q_doLow_10 (by decide) ?_
    refine lv_goto (tgt := 15) hx hb d_Q_doLow_11 (by decide) ?_
    exact hj1 _ _ _ _ hk hw (lv_sub hl [1, 2, 3, 0] rfl)
set_option maxHeartbeats 4000000 in
set_option maxRecDepth 100000 in
theorem ct_Q_doCopy {l : Launch} {D : va_G} {cA : ClassId} {ad tb : Nat → Nat} (M0 : Mem) (a1 : Int32) (a2 : Int32) (Q : Mem → Prop) (hk : wp_Q_doCopy M0 a1 a2 Q) : Ct l y_Q_doCopy ws_Q_doCopy rm_Q_doCopy D (ceC ad cA) cA tb [.ref (ad 5), .int a1, .int a2] M0 (QV Q) := by
  refine Ct.of (own := "TileConsole$Processor") (cc := b_Q_doCopy) (maxL := 3) (ret := none) ceC_fix (by decide) rfl rfl (Nat.le_of_ble_eq_true rfl) ?_
  intro p e s m args below meth c A QQ ls H locs hQQ hC hr hlk hw hl
  have hx := hC.1.1
  have hb := hC.1.2.1
  unfold wp_Q_doCopy at hk
  have hl : lv_has ls 3 [(0, .ref (ad 5)), (1, .int a1), (2, .int a2)] := hl
  refine lv_iload_n hx hb d_Q_doCopy_0 rfl (lv_at hl 1 rfl) ?_
  refine lv_bipush (v := 6) hx hb d_Q_doCopy_1 (by decide) ?_
  have hj1 : ∀ (H : Heap) (locs : List Loc) (ls : Array Slot) (M6 : Mem), wp_Q_doCopy_j1 M6 Q → Wd D (ceC ad cA) A s H locs M6 → lv_has ls 3 [(0, .ref (ad 5)), (1, .int a1), (2, .int a2)] → W p l e rm_Q_doCopy s m args below meth c H locs 0 0 QQ (F0 m 30 ls []) := by
    intro H locs ls M6 hk hw hl
    unfold wp_Q_doCopy_j1 at hk
    exact rt_v hQQ hx hb hr hlk hw ⟨rfl, hk⟩ d_Q_doCopy_30
  have hj2 : ∀ (H : Heap) (locs : List Loc) (ls : Array Slot), wp_Q_doCopy_j2 M0 a1 a2 Q → Wd D (ceC ad cA) A s H locs M0 → lv_has ls 3 [(0, .ref (ad 5)), (1, .int a1), (2, .int a2)] → W p l e rm_Q_doCopy s m args below meth c H locs 0 0 QQ (F0 m 20 ls []) := by
    intro H locs ls  hk hw hl
    unfold wp_Q_doCopy_j2 at hk
    refine lv_aload_n hx hb d_Q_doCopy_20 rfl (lv_at hl 0 rfl) ?_
    refine lv_iload_n hx hb d_Q_doCopy_21 rfl (lv_at hl 1 rfl) ?_
    refine lv_aload_n hx hb d_Q_doCopy_22 rfl (lv_at hl 0 rfl) ?_
    refine lv_iload_n hx hb d_Q_doCopy_23 rfl (lv_at hl 2 rfl) ?_
    refine cl_Vi (j := 5) (As := [.int a2]) hC hw (ct_Q_octetAt _ _ _ hk) m_105 mw_Q_octetAt rfl ⟨rfl, rfl, Nat.le_of_ble_eq_true rfl, Nat.le_of_ble_eq_true rfl⟩ rfl rfl rfl hl.1 rfl (Nat.le_of_ble_eq_true rfl) d_Q_doCopy_24 (fun H locs x7 M8 hk hw => ?_)
    refine cl_Vv (j := 5) (As := [.int a1, .int x7]) hC hw (ct_Q_setOctet _ _ _ _ hk) m_107 mw_Q_setOctet rfl ⟨rfl, rfl, Nat.le_of_ble_eq_true rfl, Nat.le_of_ble_eq_true rfl⟩ rfl rfl rfl hl.1 rfl (Nat.le_of_ble_eq_true rfl) d_Q_doCopy_27 (fun H locs M9 hk hw => ?_)
    exact hj1 _ _ _ _ hk hw (lv_sub hl [0, 1, 2] rfl)
  refine lv_icmp_ne (tgt := 20) hx hb d_Q_doCopy_3 (by decide) (fun hc => ?_) (fun hc => ?_)
  · have hk := hk.1 hc
    exact hj2 _ _ _  hk hw (lv_sub hl [0, 1, 2] rfl)
  · have hk := hk.2 hc
    refine lv_iload_n hx hb d_Q_doCopy_6 rfl (lv_at hl 2 rfl) ?_
    refine lv_bipush (v := 6) hx hb d_Q_doCopy_7 (by decide) ?_
    refine lv_icmp_ne (tgt := 20) hx hb d_Q_doCopy_9 (by decide) (fun hc => ?_) (fun hc => ?_)
    · have hk := hk.1 hc
      exact hj2 _ _ _  hk hw (lv_sub hl [0, 1, 2] rfl)
    · have hk := hk.2 hc
      refine lv_aload_n hx hb d_Q_doCopy_12 rfl (lv_at hl 0 rfl) ?_
      refine lv_iconst (v := 1) hx hb d_Q_doCopy_13 (by decide) ?_
      refine p_Q_halted hC hw (Or.inr rfl) m_33 d_Q_doCopy_14 (fun H locs M10 e_M10 hw => ?_)
      have hk := hk M10 e_M10
      refine lv_goto (tgt := 30) hx hb d_Q_doCopy_17 (by decide) ?_
      exact hj1 _ _ _ _ hk hw (lv_sub hl [0, 1, 2] rfl)
set_option maxHeartbeats 4000000 in
set_option maxRecDepth 100000 in
theorem ct_Q_add {l : Launch} {D : va_G} {cA : ClassId} {ad tb : Nat → Nat} (M0 : Mem) (a1 : Int32) (a2 : Int32) (Q : Mem → Prop) (hk : wp_Q_add M0 a1 a2 Q) : Ct l y_Q_add ws_Q_add rm_Q_add D (ceC ad cA) cA tb [.ref (ad 5), .int a1, .int a2] M0 (QV Q) := by
  refine Ct.of (own := "TileConsole$Processor") (cc := b_Q_add) (maxL := 6) (ret := none) ceC_fix (by decide) rfl rfl (Nat.le_of_ble_eq_true rfl) ?_
  intro p e s m args below meth c A QQ ls H locs hQQ hC hr hlk hw hl
  have hx := hC.1.1
  have hb := hC.1.2.1
  unfold wp_Q_add at hk
  have hl : lv_has ls 6 [(0, .ref (ad 5)), (1, .int a1), (2, .int a2)] := hl
  refine lv_aload_n hx hb d_Q_add_0 rfl (lv_at hl 0 rfl) ?_
  refine g_Q_r hC hw m_26 d_Q_add_1 ?_
  refine lv_bipush (v := 7) hx hb d_Q_add_4 (by decide) ?_
  refine ld_17 (k := 7) hC hw (vin_lit rfl) (by decide) d_Q_add_6 ?_
  refine lv_topi (fun x1 e_x1 => ?_)
  have hk := hk x1 e_x1
  refine lv_istore_n (lv' := [(3, .int x1), (0, .ref (ad 5)), (1, .int a1), (2, .int a2)]) hx hb d_Q_add_7 rfl hl (by decide) rfl (fun ls hl => ?_)
  refine lv_iload_n hx hb d_Q_add_8 rfl (lv_at hl 0 rfl) ?_
  refine lv_iload_n hx hb d_Q_add_9 rfl (lv_at hl 2 rfl) ?_
  refine lv_iadd hx hb d_Q_add_10 ?_
  refine lv_iload_n hx hb d_Q_add_11 rfl (lv_at hl 3 rfl) ?_
  refine lv_iadd hx hb d_Q_add_12 ?_
  refine lv_topi (fun x2 e_x2 => ?_)
  have hk := hk x2 e_x2
  refine lv_istore (lv' := [(4, .int x2), (3, .int x1), (0, .ref (ad 5)), (1, .int a1), (2, .int a2)]) hx hb d_Q_add_13 hl (by decide) rfl (fun ls hl => ?_)
  refine lv_iload_n hx hb d_Q_add_15 rfl (lv_at hl 1 rfl) ?_
  refine lv_bipush (v := 15) hx hb d_Q_add_16 (by decide) ?_
  refine lv_iand hx hb d_Q_add_18 ?_
  refine lv_iload_n hx hb d_Q_add_19 rfl (lv_at hl 3 rfl) ?_
  refine lv_bipush (v := 15) hx hb d_Q_add_20 (by decide) ?_
  refine lv_iand hx hb d_Q_add_22 ?_
  refine lv_iadd hx hb d_Q_add_23 ?_
  refine lv_iload_n hx hb d_Q_add_24 rfl (lv_at hl 4 rfl) ?_
  refine lv_iadd hx hb d_Q_add_25 ?_
  refine lv_bipush (v := 15) hx hb d_Q_add_26 (by decide) ?_
  have hj1 : ∀ (H : Heap) (locs : List Loc) (ls : Array Slot) (x10 : Int32), wp_Q_add_j1 M0 x2 x10 Q → Wd D (ceC ad cA) A s H locs M0 → lv_has ls 6 [(0, .ref (ad 5)), (1, .int a1), (2, .int a2), (3, .int x1), (4, .int x2)] → W p l e rm_Q_add s m args below meth c H locs 0 0 QQ (F0 m 37 ls [.int x10]) := by
    intro H locs ls x10 hk hw hl
    unfold wp_Q_add_j1 at hk
    refine lv_istore (lv' := [(5, .int x10), (0, .ref (ad 5)), (1, .int a1), (2, .int a2), (3, .int x1), (4, .int x2)]) hx hb d_Q_add_37 hl (by decide) rfl (fun ls hl => ?_)
    refine lv_aload_n hx hb d_Q_add_39 rfl (lv_at hl 1 rfl) ?_
    refine g_Q_r hC hw m_26 d_Q_add_40 ?_
    refine lv_bipush (v := 7) hx hb d_Q_add_43 (by decide) ?_
    refine lv_iload hx hb d_Q_add_45 (lv_at hl 5 rfl) ?_
    refine lv_sipush (v := 255) hx hb d_Q_add_47 (by decide) ?_
    refine lv_iand hx hb d_Q_add_50 ?_
    refine st_17 (k := 7) hC hw (vin_lit rfl) (by decide) d_Q_add_51 (fun H locs M11 e_M11 hw => ?_)
    have hk := hk M11 e_M11
    refine lv_aload_n hx hb d_Q_add_52 rfl (lv_at hl 1 rfl) ?_
    refine g_Q_r hC hw m_26 d_Q_add_53 ?_
    refine lv_bipush (v := 6) hx hb d_Q_add_56 (by decide) ?_
    refine lv_iload hx hb d_Q_add_58 (lv_at hl 5 rfl) ?_
    refine lv_sipush (v := 255) hx hb d_Q_add_60 (by decide) ?_
    refine lv_iand hx hb d_Q_add_63 ?_
    refine cl_Sip (As := [.int (x2 &&& (255 : Int32))]) hC hw (ct_Q_zero _ _ _ hk) m_91 mw_Q_zero rfl ⟨rfl, rfl, Nat.le_of_ble_eq_true rfl, Nat.le_of_ble_eq_true rfl⟩ rfl hl.1 rfl (Nat.le_of_ble_eq_true rfl) d_Q_add_64 (fun H locs x12 hk hw => ?_)
    refine lv_iload hx hb d_Q_add_67 (lv_at hl 0 rfl) ?_
    refine lv_ior hx hb d_Q_add_69 ?_
    refine lv_iload hx hb d_Q_add_70 (lv_at hl 5 rfl) ?_
    refine lv_sipush (v := 255) hx hb d_Q_add_72 (by decide) ?_
    have hj2 : ∀ (H : Heap) (locs : List Loc) (ls : Array Slot) (x15 : Int32), wp_Q_add_j2 x10 M11 x12 x15 Q → Wd D (ceC ad cA) A s H locs M11 → lv_has ls 6 [(0, .ref (ad 5)), (1, .int a1), (2, .int a2), (3, .int x1), (4, .int x2), (5, .int x10)] → W p l e rm_Q_add s m args below meth c H locs 0 0 QQ (F0 m 84 ls [.int x15, .int (x12 ||| x10), .int (6 : Int32), .ref (ad 17)]) := by
      intro H locs ls x15 hk hw hl
      unfold wp_Q_add_j2 at hk
      refine lv_ior hx hb d_Q_add_84 ?_
      refine st_17 (k := 6) hC hw (vin_lit rfl) (by decide) d_Q_add_85 (fun H locs M16 e_M16 hw => ?_)
      have hk := hk M16 e_M16
      exact rt_v hQQ hx hb hr hlk hw ⟨rfl, hk⟩ d_Q_add_86
    refine lv_icmp_le (tgt := 83) hx hb d_Q_add_75 (by decide) (fun hc => ?_) (fun hc => ?_)
    · have hk := hk.1 hc
      refine lv_iconst (v := 0) hx hb d_Q_add_83 (by decide) ?_
      exact hj2 _ _ _ _ hk hw (lv_sub hl [1, 2, 3, 4, 5, 0] rfl)
    · have hk := hk.2 hc
      refine lv_bipush (v := 16) hx hb d_Q_add_78 (by decide) ?_
      refine lv_goto (tgt := 84) hx hb d_Q_add_80 (by decide) ?_
      exact hj2 _ _ _ _ hk hw (lv_sub hl [1, 2, 3, 4, 5, 0] rfl)
  refine lv_icmp_le (tgt := 36) hx hb d_Q_add_28 (by decide) (fun hc => ?_) (fun hc => ?_)
  · have hk := hk.1 hc
    refine lv_iconst (v := 0) hx hb d_Q_add_36 (by decide) ?_
    exact hj1 _ _ _ _ hk hw (lv_sub hl [2, 3, 4, 1, 0] rfl)
  · have hk := hk.2 hc
    refine lv_bipush (v := 32) hx hb d_Q_add_31 (by decide) ?_
    refine lv_goto (tgt := 37) hx hb d_Q_add_33 (by decide) ?_
    exact hj1 _ _ _ _ hk hw (lv_sub hl [2, 3, 4, 1, 0] rfl)
set_option maxHeartbeats 4000000 in
set_option maxRecDepth 100000 in
theorem ct_Q_difference {l : Launch} {D : va_G} {cA : ClassId} {ad tb : Nat → Nat} (M0 : Mem) (a1 : Int32) (a2 : Int32) (Q : Int32 → Mem → Prop) (hk : wp_Q_difference M0 a1 a2 Q) : Ct l y_Q_difference ws_Q_difference rm_Q_difference D (ceC ad cA) cA tb [.ref (ad 5), .int a1, .int a2] M0 (QI Q) := by
  refine Ct.of (own := "TileConsole$Processor") (cc := b_Q_difference) (maxL := 6) (ret := (some .int)) ceC_fix (by decide) rfl rfl (Nat.le_of_ble_eq_true rfl) ?_
  intro p e s m args below meth c A QQ ls H locs hQQ hC hr hlk hw hl
  have hx := hC.1.1
  have hb := hC.1.2.1
  unfold wp_Q_difference at hk
  have hl : lv_has ls 6 [(0, .ref (ad 5)), (1, .int a1), (2, .int a2)] := hl
  refine lv_aload_n hx hb d_Q_difference_0 rfl (lv_at hl 0 rfl) ?_
  refine g_Q_r hC hw m_26 d_Q_difference_1 ?_
  refine lv_bipush (v := 7) hx hb d_Q_difference_4 (by decide) ?_
  refine ld_17 (k := 7) hC hw (vin_lit rfl) (by decide) d_Q_difference_6 ?_
  refine lv_topi (fun x1 e_x1 => ?_)
  have hk := hk x1 e_x1
  refine lv_istore_n (lv' := [(3, .int x1), (0, .ref (ad 5)), (1, .int a1), (2, .int a2)]) hx hb d_Q_difference_7 rfl hl (by decide) rfl (fun ls hl => ?_)
  refine lv_iload_n hx hb d_Q_difference_8 rfl (lv_at hl 0 rfl) ?_
  refine lv_iload_n hx hb d_Q_difference_9 rfl (lv_at hl 2 rfl) ?_
  refine lv_isub hx hb d_Q_difference_10 ?_
  refine lv_iload_n hx hb d_Q_difference_11 rfl (lv_at hl 3 rfl) ?_
  refine lv_isub hx hb d_Q_difference_12 ?_
  refine lv_topi (fun x2 e_x2 => ?_)
  have hk := hk x2 e_x2
  refine lv_istore (lv' := [(4, .int x2), (3, .int x1), (0, .ref (ad 5)), (1, .int a1), (2, .int a2)]) hx hb d_Q_difference_13 hl (by decide) rfl (fun ls hl => ?_)
  refine lv_iload_n hx hb d_Q_difference_15 rfl (lv_at hl 1 rfl) ?_
  refine lv_bipush (v := 15) hx hb d_Q_difference_16 (by decide) ?_
  refine lv_iand hx hb d_Q_difference_18 ?_
  refine lv_iload_n hx hb d_Q_difference_19 rfl (lv_at hl 3 rfl) ?_
  refine lv_bipush (v := 15) hx hb d_Q_difference_20 (by decide) ?_
  refine lv_iand hx hb d_Q_difference_22 ?_
  refine lv_isub hx hb d_Q_difference_23 ?_
  refine lv_iload_n hx hb d_Q_difference_24 rfl (lv_at hl 4 rfl) ?_
  refine lv_isub hx hb d_Q_difference_25 ?_
  have hj1 : ∀ (H : Heap) (locs : List Loc) (ls : Array Slot) (x9 : Int32), wp_Q_difference_j1 M0 x2 x9 Q → Wd D (ceC ad cA) A s H locs M0 → lv_has ls 6 [(0, .ref (ad 5)), (1, .int a1), (2, .int a2), (3, .int x1), (4, .int x2)] → W p l e rm_Q_difference s m args below meth c H locs 0 0 QQ (F0 m 35 ls [.int x9]) := by
    intro H locs ls x9 hk hw hl
    unfold wp_Q_difference_j1 at hk
    refine lv_istore (lv' := [(5, .int x9), (0, .ref (ad 5)), (1, .int a1), (2, .int a2), (3, .int x1), (4, .int x2)]) hx hb d_Q_difference_35 hl (by decide) rfl (fun ls hl => ?_)
    refine lv_aload_n hx hb d_Q_difference_37 rfl (lv_at hl 1 rfl) ?_
    refine g_Q_r hC hw m_26 d_Q_difference_38 ?_
    refine lv_bipush (v := 6) hx hb d_Q_difference_41 (by decide) ?_
    refine lv_iload hx hb d_Q_difference_43 (lv_at hl 5 rfl) ?_
    refine lv_sipush (v := 255) hx hb d_Q_difference_45 (by decide) ?_
    refine lv_iand hx hb d_Q_difference_48 ?_
    refine cl_Sip (As := [.int (x2 &&& (255 : Int32))]) hC hw (ct_Q_zero _ _ _ hk) m_91 mw_Q_zero rfl ⟨rfl, rfl, Nat.le_of_ble_eq_true rfl, Nat.le_of_ble_eq_true rfl⟩ rfl hl.1 rfl (Nat.le_of_ble_eq_true rfl) d_Q_difference_49 (fun H locs x10 hk hw => ?_)
    refine lv_bipush (v := 64) hx hb d_Q_difference_52 (by decide) ?_
    refine lv_ior hx hb d_Q_difference_54 ?_
    refine lv_iload hx hb d_Q_difference_55 (lv_at hl 0 rfl) ?_
    refine lv_ior hx hb d_Q_difference_57 ?_
    refine lv_iload hx hb d_Q_difference_58 (lv_at hl 5 rfl) ?_
    have hj2 : ∀ (H : Heap) (locs : List Loc) (ls : Array Slot) (x13 : Int32), wp_Q_difference_j2 M0 x2 x9 x10 x13 Q → Wd D (ceC ad cA) A s H locs M0 → lv_has ls 6 [(0, .ref (ad 5)), (1, .int a1), (2, .int a2), (3, .int x1), (4, .int x2), (5, .int x9)] → W p l e rm_Q_difference s m args below meth c H locs 0 0 QQ (F0 m 69 ls [.int x13, .int ((x10 ||| (64 : Int32)) ||| x9), .int (6 : Int32), .ref (ad 17)]) := by
      intro H locs ls x13 hk hw hl
      unfold wp_Q_difference_j2 at hk
      refine lv_ior hx hb d_Q_difference_69 ?_
      refine st_17 (k := 6) hC hw (vin_lit rfl) (by decide) d_Q_difference_70 (fun H locs M14 e_M14 hw => ?_)
      have hk := hk M14 e_M14
      refine lv_iload hx hb d_Q_difference_71 (lv_at hl 4 rfl) ?_
      refine lv_sipush (v := 255) hx hb d_Q_difference_73 (by decide) ?_
      refine lv_iand hx hb d_Q_difference_76 ?_
      exact rt_i hQQ hx hb hr hlk hw ⟨_, rfl, hk⟩ d_Q_difference_77
    refine lv_if_ge (tgt := 68) hx hb d_Q_difference_60 (by decide) (fun hc => ?_) (fun hc => ?_)
    · have hk := hk.1 hc
      refine lv_iconst (v := 0) hx hb d_Q_difference_68 (by decide) ?_
      exact hj2 _ _ _ _ hk hw (lv_sub hl [1, 2, 3, 4, 5, 0] rfl)
    · have hk := hk.2 hc
      refine lv_bipush (v := 16) hx hb d_Q_difference_63 (by decide) ?_
      refine lv_goto (tgt := 69) hx hb d_Q_difference_65 (by decide) ?_
      exact hj2 _ _ _ _ hk hw (lv_sub hl [1, 2, 3, 4, 5, 0] rfl)
  refine lv_if_ge (tgt := 34) hx hb d_Q_difference_26 (by decide) (fun hc => ?_) (fun hc => ?_)
  · have hk := hk.1 hc
    refine lv_iconst (v := 0) hx hb d_Q_difference_34 (by decide) ?_
    exact hj1 _ _ _ _ hk hw (lv_sub hl [2, 3, 4, 1, 0] rfl)
  · have hk := hk.2 hc
    refine lv_bipush (v := 32) hx hb d_Q_difference_29 (by decide) ?_
    refine lv_goto (tgt := 35) hx hb d_Q_difference_31 (by decide) ?_
    exact hj1 _ _ _ _ hk hw (lv_sub hl [2, 3, 4, 1, 0] rfl)
