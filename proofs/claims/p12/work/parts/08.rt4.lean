set_option maxHeartbeats 4000000 in
set_option maxRecDepth 100000 in
theorem ct_R_third {l : Launch} {D : va_G} {cA : ClassId} {ad tb : Nat → Nat} (M0 : Mem) (a1 : Int32) (a2 : Int32) (Q : Mem → Prop) (hk : wp_R_third M0 a1 a2 Q) : Ct l y_R_third ws_R_third rm_R_third D (ceR ad cA) cA tb [.ref (ad 0), .int a1, .int a2] M0 (QV Q) := by
  refine Ct.of (own := "TileConsoleModel") (cc := b_R_third) (maxL := 6) (ret := none) ceR_fix (by decide) rfl rfl (Nat.le_of_ble_eq_true rfl) ?_
  intro p e s m args below meth c A QQ ls H locs hQQ hC hr hlk hw hl
  have hx := hC.1.1
  have hb := hC.1.2.1
  unfold wp_R_third at hk
  have hl : lv_has ls 6 [(0, .ref (ad 0)), (1, .int a1), (2, .int a2)] := hl
  refine lv_iload_n hx hb d_R_third_0 rfl (lv_at hl 1 rfl) ?_
  refine lv_iconst (v := 1) hx hb d_R_third_1 (by decide) ?_
  refine lv_iand hx hb d_R_third_2 ?_
  refine lv_topi (fun x1 e_x1 => ?_)
  have hk := hk x1 e_x1
  refine lv_istore_n (lv' := [(3, .int x1), (0, .ref (ad 0)), (1, .int a1), (2, .int a2)]) hx hb d_R_third_3 rfl hl (by decide) rfl (fun ls hl => ?_)
  refine lv_iload_n hx hb d_R_third_4 rfl (lv_at hl 2 rfl) ?_
  refine lv_iconst (v := 1) hx hb d_R_third_5 (by decide) ?_
  refine lv_ishr hx hb d_R_third_6 ?_
  refine lv_topi (fun x2 e_x2 => ?_)
  have hk := hk x2 e_x2
  refine lv_istore (lv' := [(4, .int x2), (3, .int x1), (0, .ref (ad 0)), (1, .int a1), (2, .int a2)]) hx hb d_R_third_7 hl (by decide) rfl (fun ls hl => ?_)
  refine lv_iload_n hx hb d_R_third_9 rfl (lv_at hl 4 rfl) ?_
  have hj1 : ∀ (H : Heap) (locs : List Loc) (ls : Array Slot) (M90 : Mem), wp_R_third_j1 M90 Q → Wd D (ceR ad cA) A s H locs M90 → lv_has ls 6 [(0, .ref (ad 0)), (1, .int a1), (2, .int a2), (3, .int x1), (4, .int x2)] → W p l e rm_R_third s m args below meth c H locs 0 0 QQ (F0 m 650 ls []) := by
    intro H locs ls M90 hk hw hl
    unfold wp_R_third_j1 at hk
    exact rt_v hQQ hx hb hr hlk hw ⟨rfl, hk⟩ d_R_third_650
  by_cases hs1 : (a2 = (0 : Int32))
  · have hk := hk.1 hs1
    refine lv_tableIn (x := a2) (off := 42) (tgt := 52) hx hb d_R_third_10 (by rw [hs1]; decide) (by rw [hs1]; decide) (by rw [hs1]; decide) (by decide) ?_
    refine lv_iload_n hx hb d_R_third_52 rfl (lv_at hl 3 rfl) ?_
    refine lv_iconst (v := 4) hx hb d_R_third_53 (by decide) ?_
    refine lv_icmp_ge (tgt := 96) hx hb d_R_third_54 (by decide) (fun hc => ?_) (fun hc => ?_)
    · have hk := hk.1 hc
      refine lv_iload_n hx hb d_R_third_96 rfl (lv_at hl 3 rfl) ?_
      refine lv_iconst (v := 4) hx hb d_R_third_97 (by decide) ?_
      refine lv_icmp_ne (tgt := 122) hx hb d_R_third_98 (by decide) (fun hc => ?_) (fun hc => ?_)
      · have hk := hk.1 hc
        refine lv_iload_n hx hb d_R_third_122 rfl (lv_at hl 3 rfl) ?_
        refine lv_bipush (v := 6) hx hb d_R_third_123 (by decide) ?_
        refine lv_icmp_ne (tgt := 149) hx hb d_R_third_125 (by decide) (fun hc => ?_) (fun hc => ?_)
        · have hk := hk.1 hc
          refine lv_iload_n hx hb d_R_third_149 rfl (lv_at hl 3 rfl) ?_
          refine lv_iconst (v := 5) hx hb d_R_third_150 (by decide) ?_
          refine lv_icmp_ne (tgt := 175) hx hb d_R_third_151 (by decide) (fun hc => ?_) (fun hc => ?_)
          · have hk := hk.1 hc
            refine lv_aload_n hx hb d_R_third_175 rfl (lv_at hl 2 rfl) ?_
            refine lv_iconst (v := 2) hx hb d_R_third_176 (by decide) ?_
            refine lv_aload_n hx hb d_R_third_177 rfl (lv_at hl 2 rfl) ?_
            refine cl_Vi (j := 0) (As := []) hC hw (ct_R_spAnd _  _ hk) q_89 mw_R_spAnd rfl ⟨rfl, rfl, Nat.le_of_ble_eq_true rfl, Nat.le_of_ble_eq_true rfl⟩ rfl rfl rfl hl.1 rfl (Nat.le_of_ble_eq_true rfl) d_R_third_178 (fun H locs x91 M92 hk hw => ?_)
            refine cl_Vv (j := 0) (As := [.int (2 : Int32), .int x91]) hC hw (ct_R_setPair _ _ _ _ hk) q_85 mw_R_setPair rfl ⟨rfl, rfl, Nat.le_of_ble_eq_true rfl, Nat.le_of_ble_eq_true rfl⟩ rfl rfl rfl hl.1 rfl (Nat.le_of_ble_eq_true rfl) d_R_third_181 (fun H locs M93 hk hw => ?_)
            refine lv_aload_n hx hb d_R_third_184 rfl (lv_at hl 2 rfl) ?_
            refine lv_dup hx hb d_R_third_185 rfl ?_
            refine g_R_cost hC hw q_69 d_R_third_186 ?_
            refine lv_iconst (v := 1) hx hb d_R_third_189 (by decide) ?_
            refine lv_iadd hx hb d_R_third_190 ?_
            refine p_R_cost hC hw q_69 d_R_third_191 (fun H locs M94 e_M94 hw => ?_)
            have hk := hk M94 e_M94
            refine lv_goto (tgt := 650) hx hb d_R_third_194 (by decide) ?_
            exact hj1 _ _ _ _ hk hw (lv_sub hl [2, 3, 4, 1, 0] rfl)
          · have hk := hk.2 hc
            refine lv_aload_n hx hb d_R_third_154 rfl (lv_at hl 2 rfl) ?_
            refine lv_aload_n hx hb d_R_third_155 rfl (lv_at hl 2 rfl) ?_
            refine cl_Vi (j := 0) (As := []) hC hw (ct_R_spAnd _  _ hk) q_89 mw_R_spAnd rfl ⟨rfl, rfl, Nat.le_of_ble_eq_true rfl, Nat.le_of_ble_eq_true rfl⟩ rfl rfl rfl hl.1 rfl (Nat.le_of_ble_eq_true rfl) d_R_third_156 (fun H locs x95 M96 hk hw => ?_)
            refine p_R_sp hC hw q_15 d_R_third_159 (fun H locs M97 e_M97 hw => ?_)
            have hk := hk M97 e_M97
            refine lv_aload_n hx hb d_R_third_162 rfl (lv_at hl 2 rfl) ?_
            refine lv_dup hx hb d_R_third_163 rfl ?_
            refine g_R_cost hC hw q_69 d_R_third_164 ?_
            refine lv_iconst (v := 2) hx hb d_R_third_167 (by decide) ?_
            refine lv_iadd hx hb d_R_third_168 ?_
            refine p_R_cost hC hw q_69 d_R_third_169 (fun H locs M98 e_M98 hw => ?_)
            have hk := hk M98 e_M98
            refine lv_goto (tgt := 650) hx hb d_R_third_172 (by decide) ?_
            exact hj1 _ _ _ _ hk hw (lv_sub hl [2, 3, 4, 1, 0] rfl)
        · have hk := hk.2 hc
          refine lv_aload_n hx hb d_R_third_128 rfl (lv_at hl 2 rfl) ?_
          refine g_R_r hC hw q_13 d_R_third_129 ?_
          refine lv_bipush (v := 7) hx hb d_R_third_132 (by decide) ?_
          refine lv_aload_n hx hb d_R_third_134 rfl (lv_at hl 2 rfl) ?_
          refine lv_ldc (v := (65280 : Int32)) hx hb hC.1.2.2.2.1 (hC.1.2.2.2.2 _ q_57) d_R_third_135 ?_
          refine lv_aload_n hx hb d_R_third_137 rfl (lv_at hl 2 rfl) ?_
          refine cl_Vi (j := 0) (As := []) hC hw (ct_R_next _  _ hk) q_72 mw_R_next rfl ⟨rfl, rfl, Nat.le_of_ble_eq_true rfl, Nat.le_of_ble_eq_true rfl⟩ rfl rfl rfl hl.1 rfl (Nat.le_of_ble_eq_true rfl) d_R_third_138 (fun H locs x99 M100 hk hw => ?_)
          refine lv_iadd hx hb d_R_third_141 ?_
          refine cl_Vi (j := 0) (As := [.int ((65280 : Int32) + x99)]) hC hw (ct_R_reads _ _ _ hk) q_71 mw_R_reads rfl ⟨rfl, rfl, Nat.le_of_ble_eq_true rfl, Nat.le_of_ble_eq_true rfl⟩ rfl rfl rfl hl.1 rfl (Nat.le_of_ble_eq_true rfl) d_R_third_142 (fun H locs x101 M102 hk hw => ?_)
          refine r_st_8 (k := 7) hC hw (vin_lit rfl) (by decide) d_R_third_145 (fun H locs M103 e_M103 hw => ?_)
          have hk := hk M103 e_M103
          refine lv_goto (tgt := 650) hx hb d_R_third_146 (by decide) ?_
          exact hj1 _ _ _ _ hk hw (lv_sub hl [2, 3, 4, 1, 0] rfl)
      · have hk := hk.2 hc
        refine lv_aload_n hx hb d_R_third_101 rfl (lv_at hl 2 rfl) ?_
        refine lv_ldc (v := (65280 : Int32)) hx hb hC.1.2.2.2.1 (hC.1.2.2.2.2 _ q_57) d_R_third_102 ?_
        refine lv_aload_n hx hb d_R_third_104 rfl (lv_at hl 2 rfl) ?_
        refine cl_Vi (j := 0) (As := []) hC hw (ct_R_next _  _ hk) q_72 mw_R_next rfl ⟨rfl, rfl, Nat.le_of_ble_eq_true rfl, Nat.le_of_ble_eq_true rfl⟩ rfl rfl rfl hl.1 rfl (Nat.le_of_ble_eq_true rfl) d_R_third_105 (fun H locs x104 M105 hk hw => ?_)
        refine lv_iadd hx hb d_R_third_108 ?_
        refine lv_aload_n hx hb d_R_third_109 rfl (lv_at hl 2 rfl) ?_
        refine g_R_r hC hw q_13 d_R_third_110 ?_
        refine lv_bipush (v := 7) hx hb d_R_third_113 (by decide) ?_
        refine r_ld_8 (k := 7) hC hw (vin_lit rfl) (by decide) d_R_third_115 ?_
        refine cl_Vv (j := 0) (As := [.int ((65280 : Int32) + x104), .int (M105 8 7)]) hC hw (ct_R_writes _ _ _ _ hk) q_74 mw_R_writes rfl ⟨rfl, rfl, Nat.le_of_ble_eq_true rfl, Nat.le_of_ble_eq_true rfl⟩ rfl rfl rfl hl.1 rfl (Nat.le_of_ble_eq_true rfl) d_R_third_116 (fun H locs M106 hk hw => ?_)
        refine lv_goto (tgt := 650) hx hb d_R_third_119 (by decide) ?_
        exact hj1 _ _ _ _ hk hw (lv_sub hl [2, 3, 4, 1, 0] rfl)
    · have hk := hk.2 hc
      refine lv_aload_n hx hb d_R_third_57 rfl (lv_at hl 2 rfl) ?_
      refine lv_dup hx hb d_R_third_58 rfl ?_
      refine g_R_cost hC hw q_69 d_R_third_59 ?_
      refine lv_iconst (v := 1) hx hb d_R_third_62 (by decide) ?_
      refine lv_iadd hx hb d_R_third_63 ?_
      refine p_R_cost hC hw q_69 d_R_third_64 (fun H locs M107 e_M107 hw => ?_)
      have hk := hk M107 e_M107
      refine lv_aload_n hx hb d_R_third_67 rfl (lv_at hl 2 rfl) ?_
      refine lv_iload_n hx hb d_R_third_68 rfl (lv_at hl 3 rfl) ?_
      refine cl_Vip (j := 0) (As := [.int a1]) hC hw (ct_R_holds _ _ _ hk) q_82 mw_R_holds rfl ⟨rfl, rfl, Nat.le_of_ble_eq_true rfl, Nat.le_of_ble_eq_true rfl⟩ rfl rfl rfl hl.1 rfl (Nat.le_of_ble_eq_true rfl) d_R_third_69 (fun H locs x108 hk hw => ?_)
      refine lv_if_eq (tgt := 650) hx hb d_R_third_72 (by decide) (fun hc => ?_) (fun hc => ?_)
      · have hk := hk.1 hc
        exact hj1 _ _ _ _ hk hw (lv_sub hl [2, 3, 4, 1, 0] rfl)
      · have hk := hk.2 hc
        refine lv_aload_n hx hb d_R_third_75 rfl (lv_at hl 2 rfl) ?_
        refine lv_aload_n hx hb d_R_third_76 rfl (lv_at hl 2 rfl) ?_
        refine cl_Vi (j := 0) (As := []) hC hw (ct_R_pop _  _ hk) q_90 mw_R_pop rfl ⟨rfl, rfl, Nat.le_of_ble_eq_true rfl, Nat.le_of_ble_eq_true rfl⟩ rfl rfl rfl hl.1 rfl (Nat.le_of_ble_eq_true rfl) d_R_third_77 (fun H locs x109 M110 hk hw => ?_)
        refine p_R_pc hC hw q_16 d_R_third_80 (fun H locs M111 e_M111 hw => ?_)
        have hk := hk M111 e_M111
        refine lv_aload_n hx hb d_R_third_83 rfl (lv_at hl 2 rfl) ?_
        refine lv_dup hx hb d_R_third_84 rfl ?_
        refine g_R_cost hC hw q_69 d_R_third_85 ?_
        refine lv_iconst (v := 1) hx hb d_R_third_88 (by decide) ?_
        refine lv_iadd hx hb d_R_third_89 ?_
        refine p_R_cost hC hw q_69 d_R_third_90 (fun H locs M112 e_M112 hw => ?_)
        have hk := hk M112 e_M112
        refine lv_goto (tgt := 650) hx hb d_R_third_93 (by decide) ?_
        exact hj1 _ _ _ _ hk hw (lv_sub hl [2, 3, 4, 1, 0] rfl)
  · have hk := hk.2 hs1
    by_cases hs2 : (a2 = (1 : Int32))
    · have hk := hk.1 hs2
      refine lv_tableIn (x := a2) (off := 187) (tgt := 197) hx hb d_R_third_10 (by rw [hs2]; decide) (by rw [hs2]; decide) (by rw [hs2]; decide) (by decide) ?_
      refine lv_iload_n hx hb d_R_third_197 rfl (lv_at hl 1 rfl) ?_
      refine lv_if_ne (tgt := 252) hx hb d_R_third_198 (by decide) (fun hc => ?_) (fun hc => ?_)
      · have hk := hk.1 hc
        refine lv_iload hx hb d_R_third_252 (lv_at hl 0 rfl) ?_
        refine lv_iconst (v := 2) hx hb d_R_third_254 (by decide) ?_
        refine lv_icmp_ge (tgt := 290) hx hb d_R_third_255 (by decide) (fun hc => ?_) (fun hc => ?_)
        · have hk := hk.1 hc
          refine lv_iload hx hb d_R_third_290 (lv_at hl 0 rfl) ?_
          refine lv_iconst (v := 2) hx hb d_R_third_292 (by decide) ?_
          refine lv_icmp_ne (tgt := 308) hx hb d_R_third_293 (by decide) (fun hc => ?_) (fun hc => ?_)
          · have hk := hk.1 hc
            refine lv_aload_n hx hb d_R_third_308 rfl (lv_at hl 2 rfl) ?_
            refine lv_aload_n hx hb d_R_third_309 rfl (lv_at hl 2 rfl) ?_
            refine lv_iconst (v := 2) hx hb d_R_third_310 (by decide) ?_
            refine cl_Vip (j := 0) (As := [.int (2 : Int32)]) hC hw (ct_R_pair _ _ _ hk) q_73 mw_R_pair rfl ⟨rfl, rfl, Nat.le_of_ble_eq_true rfl, Nat.le_of_ble_eq_true rfl⟩ rfl rfl rfl hl.1 rfl (Nat.le_of_ble_eq_true rfl) d_R_third_311 (fun H locs x113 hk hw => ?_)
            refine p_R_sp hC hw q_15 d_R_third_314 (fun H locs M114 e_M114 hw => ?_)
            have hk := hk M114 e_M114
            refine lv_aload_n hx hb d_R_third_317 rfl (lv_at hl 2 rfl) ?_
            refine lv_dup hx hb d_R_third_318 rfl ?_
            refine g_R_cost hC hw q_69 d_R_third_319 ?_
            refine lv_iconst (v := 1) hx hb d_R_third_322 (by decide) ?_
            refine lv_iadd hx hb d_R_third_323 ?_
            refine p_R_cost hC hw q_69 d_R_third_324 (fun H locs M115 e_M115 hw => ?_)
            have hk := hk M115 e_M115
            refine lv_goto (tgt := 650) hx hb d_R_third_327 (by decide) ?_
            exact hj1 _ _ _ _ hk hw (lv_sub hl [2, 3, 4, 1, 0] rfl)
          · have hk := hk.2 hc
            refine lv_aload_n hx hb d_R_third_296 rfl (lv_at hl 2 rfl) ?_
            refine lv_aload_n hx hb d_R_third_297 rfl (lv_at hl 2 rfl) ?_
            refine lv_iconst (v := 2) hx hb d_R_third_298 (by decide) ?_
            refine cl_Vip (j := 0) (As := [.int (2 : Int32)]) hC hw (ct_R_pair _ _ _ hk) q_73 mw_R_pair rfl ⟨rfl, rfl, Nat.le_of_ble_eq_true rfl, Nat.le_of_ble_eq_true rfl⟩ rfl rfl rfl hl.1 rfl (Nat.le_of_ble_eq_true rfl) d_R_third_299 (fun H locs x116 hk hw => ?_)
            refine p_R_pc hC hw q_16 d_R_third_302 (fun H locs M117 e_M117 hw => ?_)
            have hk := hk M117 e_M117
            refine lv_goto (tgt := 650) hx hb d_R_third_305 (by decide) ?_
            exact hj1 _ _ _ _ hk hw (lv_sub hl [2, 3, 4, 1, 0] rfl)
        · have hk := hk.2 hc
          refine lv_aload_n hx hb d_R_third_258 rfl (lv_at hl 2 rfl) ?_
          refine lv_aload_n hx hb d_R_third_259 rfl (lv_at hl 2 rfl) ?_
          refine cl_Vi (j := 0) (As := []) hC hw (ct_R_pop _  _ hk) q_90 mw_R_pop rfl ⟨rfl, rfl, Nat.le_of_ble_eq_true rfl, Nat.le_of_ble_eq_true rfl⟩ rfl rfl rfl hl.1 rfl (Nat.le_of_ble_eq_true rfl) d_R_third_260 (fun H locs x118 M119 hk hw => ?_)
          refine p_R_pc hC hw q_16 d_R_third_263 (fun H locs M120 e_M120 hw => ?_)
          have hk := hk M120 e_M120
          refine lv_aload_n hx hb d_R_third_266 rfl (lv_at hl 2 rfl) ?_
          refine lv_dup hx hb d_R_third_267 rfl ?_
          refine g_R_cost hC hw q_69 d_R_third_268 ?_
          refine lv_iconst (v := 1) hx hb d_R_third_271 (by decide) ?_
          refine lv_iadd hx hb d_R_third_272 ?_
          refine p_R_cost hC hw q_69 d_R_third_273 (fun H locs M121 e_M121 hw => ?_)
          have hk := hk M121 e_M121
          refine lv_iload hx hb d_R_third_276 (lv_at hl 0 rfl) ?_
          refine lv_iconst (v := 1) hx hb d_R_third_278 (by decide) ?_
          refine lv_icmp_ne (tgt := 650) hx hb d_R_third_279 (by decide) (fun hc => ?_) (fun hc => ?_)
          · have hk := hk.1 hc
            exact hj1 _ _ _ _ hk hw (lv_sub hl [2, 3, 4, 1, 0] rfl)
          · have hk := hk.2 hc
            refine lv_aload_n hx hb d_R_third_282 rfl (lv_at hl 2 rfl) ?_
            refine lv_iconst (v := 1) hx hb d_R_third_283 (by decide) ?_
            refine p_R_ime hC hw (Or.inr rfl) q_17 d_R_third_284 (fun H locs M122 e_M122 hw => ?_)
            have hk := hk M122 e_M122
            refine lv_goto (tgt := 650) hx hb d_R_third_287 (by decide) ?_
            exact hj1 _ _ _ _ hk hw (lv_sub hl [2, 3, 4, 1, 0] rfl)
      · have hk := hk.2 hc
        refine lv_aload_n hx hb d_R_third_201 rfl (lv_at hl 2 rfl) ?_
        refine cl_Vi (j := 0) (As := []) hC hw (ct_R_pop _  _ hk) q_90 mw_R_pop rfl ⟨rfl, rfl, Nat.le_of_ble_eq_true rfl, Nat.le_of_ble_eq_true rfl⟩ rfl rfl rfl hl.1 rfl (Nat.le_of_ble_eq_true rfl) d_R_third_202 (fun H locs x123 M124 hk hw => ?_)
        refine lv_istore (lv' := [(5, .int x123), (4, .int x2), (3, .int x1), (0, .ref (ad 0)), (1, .int a1), (2, .int a2)]) hx hb d_R_third_205 hl (by decide) rfl (fun ls hl => ?_)
        refine lv_iload hx hb d_R_third_207 (lv_at hl 1 rfl) ?_
        refine lv_iconst (v := 3) hx hb d_R_third_209 (by decide) ?_
        have hj2 : ∀ (H : Heap) (locs : List Loc) (ls : Array Slot) (M129 : Mem), wp_R_third_j2 M129 Q → Wd D (ceR ad cA) A s H locs M129 → lv_has ls 6 [(0, .ref (ad 0)), (1, .int a1), (2, .int a2), (3, .int x1), (4, .int x2), (5, .int x123)] → W p l e rm_R_third s m args below meth c H locs 0 0 QQ (F0 m 249 ls []) := by
          intro H locs ls M129 hk hw hl
          unfold wp_R_third_j2 at hk
          refine lv_goto (tgt := 650) hx hb d_R_third_249 (by decide) ?_
          exact hj1 _ _ _ _ hk hw (lv_sub hl [0, 1, 2, 3, 4] rfl)
        refine lv_icmp_ge (tgt := 224) hx hb d_R_third_210 (by decide) (fun hc => ?_) (fun hc => ?_)
        · have hk := hk.1 hc
          refine lv_aload_n hx hb d_R_third_224 rfl (lv_at hl 3 rfl) ?_
          refine g_R_r hC hw q_13 d_R_third_225 ?_
          refine lv_bipush (v := 7) hx hb d_R_third_228 (by decide) ?_
          refine lv_iload hx hb d_R_third_230 (lv_at hl 0 rfl) ?_
          refine lv_bipush (v := 8) hx hb d_R_third_232 (by decide) ?_
          refine lv_ishr hx hb d_R_third_234 ?_
          refine r_st_8 (k := 7) hC hw (vin_lit rfl) (by decide) d_R_third_235 (fun H locs M130 e_M130 hw => ?_)
          have hk := hk M130 e_M130
          refine lv_aload_n hx hb d_R_third_236 rfl (lv_at hl 3 rfl) ?_
          refine g_R_r hC hw q_13 d_R_third_237 ?_
          refine lv_bipush (v := 6) hx hb d_R_third_240 (by decide) ?_
          refine lv_iload hx hb d_R_third_242 (lv_at hl 0 rfl) ?_
          refine lv_sipush (v := 240) hx hb d_R_third_244 (by decide) ?_
          refine lv_iand hx hb d_R_third_247 ?_
          refine r_st_8 (k := 6) hC hw (vin_lit rfl) (by decide) d_R_third_248 (fun H locs M131 e_M131 hw => ?_)
          have hk := hk M131 e_M131
          exact hj2 _ _ _ _ hk hw (lv_sub hl [3, 4, 5, 2, 1, 0] rfl)
        · have hk := hk.2 hc
          refine lv_aload_n hx hb d_R_third_213 rfl (lv_at hl 3 rfl) ?_
          refine lv_iload hx hb d_R_third_214 (lv_at hl 1 rfl) ?_
          refine lv_iload hx hb d_R_third_216 (lv_at hl 0 rfl) ?_
          refine cl_Vv (j := 0) (As := [.int x2, .int x123]) hC hw (ct_R_setPair _ _ _ _ hk) q_85 mw_R_setPair rfl ⟨rfl, rfl, Nat.le_of_ble_eq_true rfl, Nat.le_of_ble_eq_true rfl⟩ rfl rfl rfl hl.1 rfl (Nat.le_of_ble_eq_true rfl) d_R_third_218 (fun H locs M132 hk hw => ?_)
          refine lv_goto (tgt := 249) hx hb d_R_third_221 (by decide) ?_
          exact hj2 _ _ _ _ hk hw (lv_sub hl [3, 4, 5, 2, 1, 0] rfl)
    · have hk := hk.2 hs2
      by_cases hs3 : (a2 = (2 : Int32))
      · have hk := hk.1 hs3
        refine lv_tableIn (x := a2) (off := 320) (tgt := 330) hx hb d_R_third_10 (by rw [hs3]; decide) (by rw [hs3]; decide) (by rw [hs3]; decide) (by decide) ?_
        refine lv_iload_n hx hb d_R_third_330 rfl (lv_at hl 3 rfl) ?_
        refine lv_iconst (v := 4) hx hb d_R_third_331 (by decide) ?_
        refine lv_icmp_ge (tgt := 355) hx hb d_R_third_332 (by decide) (fun hc => ?_) (fun hc => ?_)
        · have hk := hk.1 hc
          refine lv_iload_n hx hb d_R_third_355 rfl (lv_at hl 3 rfl) ?_
          refine lv_iconst (v := 4) hx hb d_R_third_356 (by decide) ?_
          refine lv_icmp_ne (tgt := 383) hx hb d_R_third_357 (by decide) (fun hc => ?_) (fun hc => ?_)
          · have hk := hk.1 hc
            refine lv_iload_n hx hb d_R_third_383 rfl (lv_at hl 3 rfl) ?_
            refine lv_bipush (v := 6) hx hb d_R_third_384 (by decide) ?_
            refine lv_icmp_ne (tgt := 412) hx hb d_R_third_386 (by decide) (fun hc => ?_) (fun hc => ?_)
            · have hk := hk.1 hc
              refine lv_iload_n hx hb d_R_third_412 rfl (lv_at hl 3 rfl) ?_
              refine lv_iconst (v := 5) hx hb d_R_third_413 (by decide) ?_
              refine lv_icmp_ne (tgt := 435) hx hb d_R_third_414 (by decide) (fun hc => ?_) (fun hc => ?_)
              · have hk := hk.1 hc
                refine lv_aload_n hx hb d_R_third_435 rfl (lv_at hl 2 rfl) ?_
                refine g_R_r hC hw q_13 d_R_third_436 ?_
                refine lv_bipush (v := 7) hx hb d_R_third_439 (by decide) ?_
                refine lv_aload_n hx hb d_R_third_441 rfl (lv_at hl 2 rfl) ?_
                refine lv_aload_n hx hb d_R_third_442 rfl (lv_at hl 2 rfl) ?_
                refine cl_Vi (j := 0) (As := []) hC hw (ct_R_nextWord _  _ hk) q_84 mw_R_nextWord rfl ⟨rfl, rfl, Nat.le_of_ble_eq_true rfl, Nat.le_of_ble_eq_true rfl⟩ rfl rfl rfl hl.1 rfl (Nat.le_of_ble_eq_true rfl) d_R_third_443 (fun H locs x133 M134 hk hw => ?_)
                refine cl_Vi (j := 0) (As := [.int x133]) hC hw (ct_R_reads _ _ _ hk) q_71 mw_R_reads rfl ⟨rfl, rfl, Nat.le_of_ble_eq_true rfl, Nat.le_of_ble_eq_true rfl⟩ rfl rfl rfl hl.1 rfl (Nat.le_of_ble_eq_true rfl) d_R_third_446 (fun H locs x135 M136 hk hw => ?_)
                refine r_st_8 (k := 7) hC hw (vin_lit rfl) (by decide) d_R_third_449 (fun H locs M137 e_M137 hw => ?_)
                have hk := hk M137 e_M137
                refine lv_goto (tgt := 650) hx hb d_R_third_450 (by decide) ?_
                exact hj1 _ _ _ _ hk hw (lv_sub hl [2, 3, 4, 1, 0] rfl)
              · have hk := hk.2 hc
                refine lv_aload_n hx hb d_R_third_417 rfl (lv_at hl 2 rfl) ?_
                refine lv_aload_n hx hb d_R_third_418 rfl (lv_at hl 2 rfl) ?_
                refine cl_Vi (j := 0) (As := []) hC hw (ct_R_nextWord _  _ hk) q_84 mw_R_nextWord rfl ⟨rfl, rfl, Nat.le_of_ble_eq_true rfl, Nat.le_of_ble_eq_true rfl⟩ rfl rfl rfl hl.1 rfl (Nat.le_of_ble_eq_true rfl) d_R_third_419 (fun H locs x138 M139 hk hw => ?_)
                refine lv_aload_n hx hb d_R_third_422 rfl (lv_at hl 2 rfl) ?_
                refine g_R_r hC hw q_13 d_R_third_423 ?_
                refine lv_bipush (v := 7) hx hb d_R_third_426 (by decide) ?_
                refine r_ld_8 (k := 7) hC hw (vin_lit rfl) (by decide) d_R_third_428 ?_
                refine cl_Vv (j := 0) (As := [.int x138, .int (M139 8 7)]) hC hw (ct_R_writes _ _ _ _ hk) q_74 mw_R_writes rfl ⟨rfl, rfl, Nat.le_of_ble_eq_true rfl, Nat.le_of_ble_eq_true rfl⟩ rfl rfl rfl hl.1 rfl (Nat.le_of_ble_eq_true rfl) d_R_third_429 (fun H locs M140 hk hw => ?_)
                refine lv_goto (tgt := 650) hx hb d_R_third_432 (by decide) ?_
                exact hj1 _ _ _ _ hk hw (lv_sub hl [2, 3, 4, 1, 0] rfl)
            · have hk := hk.2 hc
              refine lv_aload_n hx hb d_R_third_389 rfl (lv_at hl 2 rfl) ?_
              refine g_R_r hC hw q_13 d_R_third_390 ?_
              refine lv_bipush (v := 7) hx hb d_R_third_393 (by decide) ?_
              refine lv_aload_n hx hb d_R_third_395 rfl (lv_at hl 2 rfl) ?_
              refine lv_ldc (v := (65280 : Int32)) hx hb hC.1.2.2.2.1 (hC.1.2.2.2.2 _ q_57) d_R_third_396 ?_
              refine lv_aload_n hx hb d_R_third_398 rfl (lv_at hl 2 rfl) ?_
              refine g_R_r hC hw q_13 d_R_third_399 ?_
              refine lv_iconst (v := 1) hx hb d_R_third_402 (by decide) ?_
              refine r_ld_8 (k := 1) hC hw (vin_lit rfl) (by decide) d_R_third_403 ?_
              refine lv_iadd hx hb d_R_third_404 ?_
              refine cl_Vi (j := 0) (As := [.int ((65280 : Int32) + (M0 8 1))]) hC hw (ct_R_reads _ _ _ hk) q_71 mw_R_reads rfl ⟨rfl, rfl, Nat.le_of_ble_eq_true rfl, Nat.le_of_ble_eq_true rfl⟩ rfl rfl rfl hl.1 rfl (Nat.le_of_ble_eq_true rfl) d_R_third_405 (fun H locs x141 M142 hk hw => ?_)
              refine r_st_8 (k := 7) hC hw (vin_lit rfl) (by decide) d_R_third_408 (fun H locs M143 e_M143 hw => ?_)
              have hk := hk M143 e_M143
              refine lv_goto (tgt := 650) hx hb d_R_third_409 (by decide) ?_
              exact hj1 _ _ _ _ hk hw (lv_sub hl [2, 3, 4, 1, 0] rfl)
          · have hk := hk.2 hc
            refine lv_aload_n hx hb d_R_third_360 rfl (lv_at hl 2 rfl) ?_
            refine lv_ldc (v := (65280 : Int32)) hx hb hC.1.2.2.2.1 (hC.1.2.2.2.2 _ q_57) d_R_third_361 ?_
            refine lv_aload_n hx hb d_R_third_363 rfl (lv_at hl 2 rfl) ?_
            refine g_R_r hC hw q_13 d_R_third_364 ?_
            refine lv_iconst (v := 1) hx hb d_R_third_367 (by decide) ?_
            refine r_ld_8 (k := 1) hC hw (vin_lit rfl) (by decide) d_R_third_368 ?_
            refine lv_iadd hx hb d_R_third_369 ?_
            refine lv_aload_n hx hb d_R_third_370 rfl (lv_at hl 2 rfl) ?_
            refine g_R_r hC hw q_13 d_R_third_371 ?_
            refine lv_bipush (v := 7) hx hb d_R_third_374 (by decide) ?_
            refine r_ld_8 (k := 7) hC hw (vin_lit rfl) (by decide) d_R_third_376 ?_
            refine cl_Vv (j := 0) (As := [.int ((65280 : Int32) + (M0 8 1)), .int (M0 8 7)]) hC hw (ct_R_writes _ _ _ _ hk) q_74 mw_R_writes rfl ⟨rfl, rfl, Nat.le_of_ble_eq_true rfl, Nat.le_of_ble_eq_true rfl⟩ rfl rfl rfl hl.1 rfl (Nat.le_of_ble_eq_true rfl) d_R_third_377 (fun H locs M144 hk hw => ?_)
            refine lv_goto (tgt := 650) hx hb d_R_third_380 (by decide) ?_
            exact hj1 _ _ _ _ hk hw (lv_sub hl [2, 3, 4, 1, 0] rfl)
        · have hk := hk.2 hc
          refine lv_aload_n hx hb d_R_third_335 rfl (lv_at hl 2 rfl) ?_
          refine cl_Vi (j := 0) (As := []) hC hw (ct_R_nextWord _  _ hk) q_84 mw_R_nextWord rfl ⟨rfl, rfl, Nat.le_of_ble_eq_true rfl, Nat.le_of_ble_eq_true rfl⟩ rfl rfl rfl hl.1 rfl (Nat.le_of_ble_eq_true rfl) d_R_third_336 (fun H locs x145 M146 hk hw => ?_)
          refine lv_istore (lv' := [(5, .int x145), (4, .int x2), (3, .int x1), (0, .ref (ad 0)), (1, .int a1), (2, .int a2)]) hx hb d_R_third_339 hl (by decide) rfl (fun ls hl => ?_)
          refine lv_aload_n hx hb d_R_third_341 rfl (lv_at hl 3 rfl) ?_
          refine lv_aload_n hx hb d_R_third_342 rfl (lv_at hl 3 rfl) ?_
          refine lv_iload_n hx hb d_R_third_343 rfl (lv_at hl 4 rfl) ?_
          refine cl_Vip (j := 0) (As := [.int a1]) hC hw (ct_R_holds _ _ _ hk) q_82 mw_R_holds rfl ⟨rfl, rfl, Nat.le_of_ble_eq_true rfl, Nat.le_of_ble_eq_true rfl⟩ rfl rfl rfl hl.1 rfl (Nat.le_of_ble_eq_true rfl) d_R_third_344 (fun H locs x147 hk hw => ?_)
          refine lv_iload hx hb d_R_third_347 (lv_at hl 0 rfl) ?_
          refine cl_Vv (j := 0) (As := [.int x147, .int x145]) hC hw (ct_R_jumps _ _ _ _ hk) q_83 mw_R_jumps rfl ⟨rfl, rfl, Nat.le_of_ble_eq_true rfl, Nat.le_of_ble_eq_true rfl⟩ rfl rfl rfl hl.1 rfl (Nat.le_of_ble_eq_true rfl) d_R_third_349 (fun H locs M148 hk hw => ?_)
          refine lv_goto (tgt := 650) hx hb d_R_third_352 (by decide) ?_
          exact hj1 _ _ _ _ hk hw (lv_sub hl [3, 4, 5, 2, 1] rfl)
      · have hk := hk.2 hs3
        by_cases hs4 : (a2 = (3 : Int32))
        · have hk := hk.1 hs4
          refine lv_tableIn (x := a2) (off := 443) (tgt := 453) hx hb d_R_third_10 (by rw [hs4]; decide) (by rw [hs4]; decide) (by rw [hs4]; decide) (by decide) ?_
          refine lv_iload_n hx hb d_R_third_453 rfl (lv_at hl 3 rfl) ?_
          refine lv_if_ne (tgt := 469) hx hb d_R_third_454 (by decide) (fun hc => ?_) (fun hc => ?_)
          · have hk := hk.1 hc
            refine lv_iload_n hx hb d_R_third_469 rfl (lv_at hl 3 rfl) ?_
            refine lv_iconst (v := 1) hx hb d_R_third_470 (by decide) ?_
            refine lv_icmp_ne (tgt := 481) hx hb d_R_third_471 (by decide) (fun hc => ?_) (fun hc => ?_)
            · have hk := hk.1 hc
              refine lv_iload_n hx hb d_R_third_481 rfl (lv_at hl 3 rfl) ?_
              refine lv_bipush (v := 6) hx hb d_R_third_482 (by decide) ?_
              refine lv_icmp_ne (tgt := 495) hx hb d_R_third_484 (by decide) (fun hc => ?_) (fun hc => ?_)
              · have hk := hk.1 hc
                refine lv_iload_n hx hb d_R_third_495 rfl (lv_at hl 3 rfl) ?_
                refine lv_bipush (v := 7) hx hb d_R_third_496 (by decide) ?_
                refine lv_icmp_ne (tgt := 509) hx hb d_R_third_498 (by decide) (fun hc => ?_) (fun hc => ?_)
                · have hk := hk.1 hc
                  refine lv_aload_n hx hb d_R_third_509 rfl (lv_at hl 2 rfl) ?_
                  refine lv_iconst (v := 1) hx hb d_R_third_510 (by decide) ?_
                  refine p_R_locked hC hw (Or.inr rfl) q_19 d_R_third_511 (fun H locs M149 e_M149 hw => ?_)
                  have hk := hk M149 e_M149
                  refine lv_goto (tgt := 650) hx hb d_R_third_514 (by decide) ?_
                  exact hj1 _ _ _ _ hk hw (lv_sub hl [2, 3, 4, 1, 0] rfl)
                · have hk := hk.2 hc
                  refine lv_aload_n hx hb d_R_third_501 rfl (lv_at hl 2 rfl) ?_
                  refine lv_iconst (v := 1) hx hb d_R_third_502 (by decide) ?_
                  refine p_R_soon hC hw (Or.inr rfl) q_20 d_R_third_503 (fun H locs M150 e_M150 hw => ?_)
                  have hk := hk M150 e_M150
                  refine lv_goto (tgt := 650) hx hb d_R_third_506 (by decide) ?_
                  exact hj1 _ _ _ _ hk hw (lv_sub hl [2, 3, 4, 1, 0] rfl)
              · have hk := hk.2 hc
                refine lv_aload_n hx hb d_R_third_487 rfl (lv_at hl 2 rfl) ?_
                refine lv_iconst (v := 0) hx hb d_R_third_488 (by decide) ?_
                refine p_R_ime hC hw (Or.inl rfl) q_17 d_R_third_489 (fun H locs M151 e_M151 hw => ?_)
                have hk := hk M151 e_M151
                refine lv_goto (tgt := 650) hx hb d_R_third_492 (by decide) ?_
                exact hj1 _ _ _ _ hk hw (lv_sub hl [2, 3, 4, 1, 0] rfl)
            · have hk := hk.2 hc
              refine lv_aload_n hx hb d_R_third_474 rfl (lv_at hl 2 rfl) ?_
              refine cl_Vv (j := 0) (As := []) hC hw (ct_R_bits _  _ hk) q_91 mw_R_bits rfl ⟨rfl, rfl, Nat.le_of_ble_eq_true rfl, Nat.le_of_ble_eq_true rfl⟩ rfl rfl rfl hl.1 rfl (Nat.le_of_ble_eq_true rfl) d_R_third_475 (fun H locs M152 hk hw => ?_)
              refine lv_goto (tgt := 650) hx hb d_R_third_478 (by decide) ?_
              exact hj1 _ _ _ _ hk hw (lv_sub hl [2, 3, 4, 1, 0] rfl)
          · have hk := hk.2 hc
            refine lv_aload_n hx hb d_R_third_457 rfl (lv_at hl 2 rfl) ?_
            refine lv_iconst (v := 1) hx hb d_R_third_458 (by decide) ?_
            refine lv_aload_n hx hb d_R_third_459 rfl (lv_at hl 2 rfl) ?_
            refine cl_Vi (j := 0) (As := []) hC hw (ct_R_nextWord _  _ hk) q_84 mw_R_nextWord rfl ⟨rfl, rfl, Nat.le_of_ble_eq_true rfl, Nat.le_of_ble_eq_true rfl⟩ rfl rfl rfl hl.1 rfl (Nat.le_of_ble_eq_true rfl) d_R_third_460 (fun H locs x153 M154 hk hw => ?_)
            refine cl_Vv (j := 0) (As := [.int (1 : Int32), .int x153]) hC hw (ct_R_jumps _ _ _ _ hk) q_83 mw_R_jumps rfl ⟨rfl, rfl, Nat.le_of_ble_eq_true rfl, Nat.le_of_ble_eq_true rfl⟩ rfl rfl rfl hl.1 rfl (Nat.le_of_ble_eq_true rfl) d_R_third_463 (fun H locs M155 hk hw => ?_)
            refine lv_goto (tgt := 650) hx hb d_R_third_466 (by decide) ?_
            exact hj1 _ _ _ _ hk hw (lv_sub hl [2, 3, 4, 1, 0] rfl)
        · have hk := hk.2 hs4
          by_cases hs5 : (a2 = (4 : Int32))
          · have hk := hk.1 hs5
            refine lv_tableIn (x := a2) (off := 507) (tgt := 517) hx hb d_R_third_10 (by rw [hs5]; decide) (by rw [hs5]; decide) (by rw [hs5]; decide) (by decide) ?_
            refine lv_iload_n hx hb d_R_third_517 rfl (lv_at hl 3 rfl) ?_
            refine lv_iconst (v := 3) hx hb d_R_third_518 (by decide) ?_
            refine lv_icmp_le (tgt := 530) hx hb d_R_third_519 (by decide) (fun hc => ?_) (fun hc => ?_)
            · have hk := hk.1 hc
              refine lv_aload_n hx hb d_R_third_530 rfl (lv_at hl 2 rfl) ?_
              refine cl_Vi (j := 0) (As := []) hC hw (ct_R_nextWord _  _ hk) q_84 mw_R_nextWord rfl ⟨rfl, rfl, Nat.le_of_ble_eq_true rfl, Nat.le_of_ble_eq_true rfl⟩ rfl rfl rfl hl.1 rfl (Nat.le_of_ble_eq_true rfl) d_R_third_531 (fun H locs x156 M157 hk hw => ?_)
              refine lv_istore (lv' := [(5, .int x156), (4, .int x2), (3, .int x1), (0, .ref (ad 0)), (1, .int a1), (2, .int a2)]) hx hb d_R_third_534 hl (by decide) rfl (fun ls hl => ?_)
              refine lv_aload_n hx hb d_R_third_536 rfl (lv_at hl 3 rfl) ?_
              refine lv_aload_n hx hb d_R_third_537 rfl (lv_at hl 3 rfl) ?_
              refine lv_iload_n hx hb d_R_third_538 rfl (lv_at hl 4 rfl) ?_
              refine cl_Vip (j := 0) (As := [.int a1]) hC hw (ct_R_holds _ _ _ hk) q_82 mw_R_holds rfl ⟨rfl, rfl, Nat.le_of_ble_eq_true rfl, Nat.le_of_ble_eq_true rfl⟩ rfl rfl rfl hl.1 rfl (Nat.le_of_ble_eq_true rfl) d_R_third_539 (fun H locs x158 hk hw => ?_)
              refine lv_iload hx hb d_R_third_542 (lv_at hl 0 rfl) ?_
              refine cl_Vv (j := 0) (As := [.int x158, .int x156]) hC hw (ct_R_calls _ _ _ _ hk) q_92 mw_R_calls rfl ⟨rfl, rfl, Nat.le_of_ble_eq_true rfl, Nat.le_of_ble_eq_true rfl⟩ rfl rfl rfl hl.1 rfl (Nat.le_of_ble_eq_true rfl) d_R_third_544 (fun H locs M159 hk hw => ?_)
              refine lv_goto (tgt := 650) hx hb d_R_third_547 (by decide) ?_
              exact hj1 _ _ _ _ hk hw (lv_sub hl [3, 4, 5, 2, 1] rfl)
            · have hk := hk.2 hc
              refine lv_aload_n hx hb d_R_third_522 rfl (lv_at hl 2 rfl) ?_
              refine lv_iconst (v := 1) hx hb d_R_third_523 (by decide) ?_
              refine p_R_locked hC hw (Or.inr rfl) q_19 d_R_third_524 (fun H locs M160 e_M160 hw => ?_)
              have hk := hk M160 e_M160
              refine lv_goto (tgt := 650) hx hb d_R_third_527 (by decide) ?_
              exact hj1 _ _ _ _ hk hw (lv_sub hl [2, 3, 4, 1, 0] rfl)
          · have hk := hk.2 hs5
            by_cases hs6 : (a2 = (5 : Int32))
            · have hk := hk.1 hs6
              refine lv_tableIn (x := a2) (off := 540) (tgt := 550) hx hb d_R_third_10 (by rw [hs6]; decide) (by rw [hs6]; decide) (by rw [hs6]; decide) (by decide) ?_
              refine lv_iload_n hx hb d_R_third_550 rfl (lv_at hl 1 rfl) ?_
              refine lv_if_ne (tgt := 604) hx hb d_R_third_551 (by decide) (fun hc => ?_) (fun hc => ?_)
              · have hk := hk.1 hc
                refine lv_iload hx hb d_R_third_604 (lv_at hl 0 rfl) ?_
                refine lv_if_ne (tgt := 621) hx hb d_R_third_606 (by decide) (fun hc => ?_) (fun hc => ?_)
                · have hk := hk.1 hc
                  refine lv_aload_n hx hb d_R_third_621 rfl (lv_at hl 2 rfl) ?_
                  refine lv_iconst (v := 1) hx hb d_R_third_622 (by decide) ?_
                  refine p_R_locked hC hw (Or.inr rfl) q_19 d_R_third_623 (fun H locs M161 e_M161 hw => ?_)
                  have hk := hk M161 e_M161
                  refine lv_goto (tgt := 650) hx hb d_R_third_626 (by decide) ?_
                  exact hj1 _ _ _ _ hk hw (lv_sub hl [2, 3, 4, 1, 0] rfl)
                · have hk := hk.2 hc
                  refine lv_aload_n hx hb d_R_third_609 rfl (lv_at hl 2 rfl) ?_
                  refine lv_iconst (v := 1) hx hb d_R_third_610 (by decide) ?_
                  refine lv_aload_n hx hb d_R_third_611 rfl (lv_at hl 2 rfl) ?_
                  refine cl_Vi (j := 0) (As := []) hC hw (ct_R_nextWord _  _ hk) q_84 mw_R_nextWord rfl ⟨rfl, rfl, Nat.le_of_ble_eq_true rfl, Nat.le_of_ble_eq_true rfl⟩ rfl rfl rfl hl.1 rfl (Nat.le_of_ble_eq_true rfl) d_R_third_612 (fun H locs x162 M163 hk hw => ?_)
                  refine cl_Vv (j := 0) (As := [.int (1 : Int32), .int x162]) hC hw (ct_R_calls _ _ _ _ hk) q_92 mw_R_calls rfl ⟨rfl, rfl, Nat.le_of_ble_eq_true rfl, Nat.le_of_ble_eq_true rfl⟩ rfl rfl rfl hl.1 rfl (Nat.le_of_ble_eq_true rfl) d_R_third_615 (fun H locs M164 hk hw => ?_)
                  refine lv_goto (tgt := 650) hx hb d_R_third_618 (by decide) ?_
                  exact hj1 _ _ _ _ hk hw (lv_sub hl [2, 3, 4, 1, 0] rfl)
              · have hk := hk.2 hc
                refine lv_aload_n hx hb d_R_third_554 rfl (lv_at hl 2 rfl) ?_
                refine lv_iload hx hb d_R_third_555 (lv_at hl 0 rfl) ?_
                refine lv_iconst (v := 3) hx hb d_R_third_557 (by decide) ?_
                have hj3 : ∀ (H : Heap) (locs : List Loc) (ls : Array Slot) (x169 : Int32), wp_R_third_j3 M0 x169 Q → Wd D (ceR ad cA) A s H locs M0 → lv_has ls 6 [(0, .ref (ad 0)), (1, .int a1), (2, .int a2), (3, .int x1), (4, .int x2)] → W p l e rm_R_third s m args below meth c H locs 0 0 QQ (F0 m 588 ls [.int x169, .ref (ad 0)]) := by
                  intro H locs ls x169 hk hw hl
                  unfold wp_R_third_j3 at hk
                  refine cl_Vv (j := 0) (As := [.int x169]) hC hw (ct_R_push _ _ _ hk) q_77 mw_R_push rfl ⟨rfl, rfl, Nat.le_of_ble_eq_true rfl, Nat.le_of_ble_eq_true rfl⟩ rfl rfl rfl hl.1 rfl (Nat.le_of_ble_eq_true rfl) d_R_third_588 (fun H locs M170 hk hw => ?_)
                  refine lv_aload_n hx hb d_R_third_591 rfl (lv_at hl 0 rfl) ?_
                  refine lv_dup hx hb d_R_third_592 rfl ?_
                  refine g_R_cost hC hw q_69 d_R_third_593 ?_
                  refine lv_iconst (v := 1) hx hb d_R_third_596 (by decide) ?_
                  refine lv_iadd hx hb d_R_third_597 ?_
                  refine p_R_cost hC hw q_69 d_R_third_598 (fun H locs M171 e_M171 hw => ?_)
                  have hk := hk M171 e_M171
                  refine lv_goto (tgt := 650) hx hb d_R_third_601 (by decide) ?_
                  exact hj1 _ _ _ _ hk hw (lv_sub hl [0, 1, 2, 3, 4] rfl)
                refine lv_icmp_ge (tgt := 570) hx hb d_R_third_558 (by decide) (fun hc => ?_) (fun hc => ?_)
                · have hk := hk.1 hc
                  refine lv_aload_n hx hb d_R_third_570 rfl (lv_at hl 2 rfl) ?_
                  refine g_R_r hC hw q_13 d_R_third_571 ?_
                  refine lv_bipush (v := 7) hx hb d_R_third_574 (by decide) ?_
                  refine r_ld_8 (k := 7) hC hw (vin_lit rfl) (by decide) d_R_third_576 ?_
                  refine lv_bipush (v := 8) hx hb d_R_third_577 (by decide) ?_
                  refine lv_ishl hx hb d_R_third_579 ?_
                  refine lv_aload_n hx hb d_R_third_580 rfl (lv_at hl 2 rfl) ?_
                  refine g_R_r hC hw q_13 d_R_third_581 ?_
                  refine lv_bipush (v := 6) hx hb d_R_third_584 (by decide) ?_
                  refine r_ld_8 (k := 6) hC hw (vin_lit rfl) (by decide) d_R_third_586 ?_
                  refine lv_ior hx hb d_R_third_587 ?_
                  exact hj3 _ _ _ _ hk hw (lv_sub hl [2, 3, 4, 1, 0] rfl)
                · have hk := hk.2 hc
                  refine lv_aload_n hx hb d_R_third_561 rfl (lv_at hl 2 rfl) ?_
                  refine lv_iload hx hb d_R_third_562 (lv_at hl 0 rfl) ?_
                  refine cl_Vip (j := 0) (As := [.int x2]) hC hw (ct_R_pair _ _ _ hk) q_73 mw_R_pair rfl ⟨rfl, rfl, Nat.le_of_ble_eq_true rfl, Nat.le_of_ble_eq_true rfl⟩ rfl rfl rfl hl.1 rfl (Nat.le_of_ble_eq_true rfl) d_R_third_564 (fun H locs x172 hk hw => ?_)
                  refine lv_goto (tgt := 588) hx hb d_R_third_567 (by decide) ?_
                  exact hj3 _ _ _ _ hk hw (lv_sub hl [2, 3, 4, 1, 0] rfl)
            · have hk := hk.2 hs6
              by_cases hs7 : (a2 = (6 : Int32))
              · have hk := hk.1 hs7
                refine lv_tableIn (x := a2) (off := 619) (tgt := 629) hx hb d_R_third_10 (by rw [hs7]; decide) (by rw [hs7]; decide) (by rw [hs7]; decide) (by decide) ?_
                refine lv_aload_n hx hb d_R_third_629 rfl (lv_at hl 2 rfl) ?_
                refine lv_iload_n hx hb d_R_third_630 rfl (lv_at hl 3 rfl) ?_
                refine lv_aload_n hx hb d_R_third_631 rfl (lv_at hl 2 rfl) ?_
                refine cl_Vi (j := 0) (As := []) hC hw (ct_R_next _  _ hk) q_72 mw_R_next rfl ⟨rfl, rfl, Nat.le_of_ble_eq_true rfl, Nat.le_of_ble_eq_true rfl⟩ rfl rfl rfl hl.1 rfl (Nat.le_of_ble_eq_true rfl) d_R_third_632 (fun H locs x173 M174 hk hw => ?_)
                refine cl_Vv (j := 0) (As := [.int a1, .int x173]) hC hw (ct_R_reckons _ _ _ _ hk) q_93 mw_R_reckons rfl ⟨rfl, rfl, Nat.le_of_ble_eq_true rfl, Nat.le_of_ble_eq_true rfl⟩ rfl rfl rfl hl.1 rfl (Nat.le_of_ble_eq_true rfl) d_R_third_635 (fun H locs M175 hk hw => ?_)
                refine lv_goto (tgt := 650) hx hb d_R_third_638 (by decide) ?_
                exact hj1 _ _ _ _ hk hw (lv_sub hl [2, 3, 4, 1, 0] rfl)
              · have hk := hk.2 hs7
                refine lv_tableOut (x := a2) (tgt := 641) hx hb d_R_third_10 (by have hz := (⟨lv_neT hs1 (show ((0 : Int32)).toInt = 0 by decide), lv_neT hs2 (show ((1 : Int32)).toInt = 1 by decide), lv_neT hs3 (show ((2 : Int32)).toInt = 2 by decide), lv_neT hs4 (show ((3 : Int32)).toInt = 3 by decide), lv_neT hs5 (show ((4 : Int32)).toInt = 4 by decide), lv_neT hs6 (show ((5 : Int32)).toInt = 5 by decide), lv_neT hs7 (show ((6 : Int32)).toInt = 6 by decide)⟩ : ¬ (a2).toInt = 0 ∧ ¬ (a2).toInt = 1 ∧ ¬ (a2).toInt = 2 ∧ ¬ (a2).toInt = 3 ∧ ¬ (a2).toInt = 4 ∧ ¬ (a2).toInt = 5 ∧ ¬ (a2).toInt = 6); omega) (by decide) ?_
                refine lv_aload_n hx hb d_R_third_641 rfl (lv_at hl 2 rfl) ?_
                refine lv_iconst (v := 1) hx hb d_R_third_642 (by decide) ?_
                refine lv_bipush (v := 8) hx hb d_R_third_643 (by decide) ?_
                refine lv_iload_n hx hb d_R_third_645 rfl (lv_at hl 3 rfl) ?_
                refine lv_imul hx hb d_R_third_646 ?_
                refine cl_Vv (j := 0) (As := [.int (1 : Int32), .int ((8 : Int32) * a1)]) hC hw (ct_R_calls _ _ _ _ hk) q_92 mw_R_calls rfl ⟨rfl, rfl, Nat.le_of_ble_eq_true rfl, Nat.le_of_ble_eq_true rfl⟩ rfl rfl rfl hl.1 rfl (Nat.le_of_ble_eq_true rfl) d_R_third_647 (fun H locs M176 hk hw => ?_)
                exact hj1 _ _ _ _ hk hw (lv_sub hl [2, 3, 4, 1, 0] rfl)
set_option maxHeartbeats 4000000 in
set_option maxRecDepth 100000 in
theorem ct_R_step {l : Launch} {D : va_G} {cA : ClassId} {ad tb : Nat → Nat} (M0 : Mem) (Q : Int32 → Mem → Prop) (hk : wp_R_step M0 Q) : Ct l y_R_step ws_R_step rm_R_step D (ceR ad cA) cA tb [.ref (ad 0)] M0 (QI Q) := by
  refine Ct.of (own := "TileConsoleModel") (cc := b_R_step) (maxL := 7) (ret := (some .boolean)) ceR_fix (by decide) rfl rfl (Nat.le_of_ble_eq_true rfl) ?_
  intro p e s m args below meth c A QQ ls H locs hQQ hC hr hlk hw hl
  have hx := hC.1.1
  have hb := hC.1.2.1
  unfold wp_R_step at hk
  have hl : lv_has ls 7 [(0, .ref (ad 0))] := hl
  refine lv_aload_n hx hb d_R_step_0 rfl (lv_at hl 0 rfl) ?_
  refine g_R_enabled hC hw q_27 d_R_step_1 ?_
  refine lv_aload_n hx hb d_R_step_4 rfl (lv_at hl 0 rfl) ?_
  refine g_R_flags hC hw q_26 d_R_step_5 ?_
  refine lv_iand hx hb d_R_step_8 ?_
  refine lv_bipush (v := 31) hx hb d_R_step_9 (by decide) ?_
  refine lv_iand hx hb d_R_step_11 ?_
  refine lv_topi (fun x1 e_x1 => ?_)
  have hk := hk x1 e_x1
  refine lv_istore_n (lv' := [(1, .int x1), (0, .ref (ad 0))]) hx hb d_R_step_12 rfl hl (by decide) rfl (fun ls hl => ?_)
  refine lv_aload_n hx hb d_R_step_13 rfl (lv_at hl 1 rfl) ?_
  refine lv_iconst (v := 0) hx hb d_R_step_14 (by decide) ?_
  refine p_R_cost hC hw q_69 d_R_step_15 (fun H locs M2 e_M2 hw => ?_)
  have hk := hk M2 e_M2
  refine lv_iload_n hx hb d_R_step_18 rfl (lv_at hl 0 rfl) ?_
  have hj1 : ∀ (H : Heap) (locs : List Loc) (ls : Array Slot) (M58 : Mem), wp_R_step_j1 M58 Q → Wd D (ceR ad cA) A s H locs M58 → lv_has ls 7 [(0, .ref (ad 0)), (1, .int x1)] → W p l e rm_R_step s m args below meth c H locs 0 0 QQ (F0 m 120 ls []) := by
    intro H locs ls M58 hk hw hl
    unfold wp_R_step_j1 at hk
    refine lv_aload_n hx hb d_R_step_120 rfl (lv_at hl 0 rfl) ?_
    refine g_R_halts hC hw q_18 d_R_step_121 ?_
    refine lv_if_eq (tgt := 144) hx hb d_R_step_124 (by decide) (fun hc => ?_) (fun hc => ?_)
    · have hk := hk.1 hc
      refine lv_aload_n hx hb d_R_step_144 rfl (lv_at hl 0 rfl) ?_
      refine g_R_soon hC hw q_20 d_R_step_145 ?_
      refine lv_topi (fun x59 e_x59 => ?_)
      have hk := hk x59 e_x59
      refine lv_istore_n (lv' := [(2, .int x59), (0, .ref (ad 0)), (1, .int x1)]) hx hb d_R_step_148 rfl hl (by decide) rfl (fun ls hl => ?_)
      refine lv_aload_n hx hb d_R_step_149 rfl (lv_at hl 1 rfl) ?_
      refine lv_iconst (v := 0) hx hb d_R_step_150 (by decide) ?_
      refine p_R_soon hC hw (Or.inl rfl) q_20 d_R_step_151 (fun H locs M60 e_M60 hw => ?_)
      have hk := hk M60 e_M60
      refine lv_aload_n hx hb d_R_step_154 rfl (lv_at hl 1 rfl) ?_
      refine cl_Vi (j := 0) (As := []) hC hw (ct_R_next _  _ hk) q_72 mw_R_next rfl ⟨rfl, rfl, Nat.le_of_ble_eq_true rfl, Nat.le_of_ble_eq_true rfl⟩ rfl rfl rfl hl.1 rfl (Nat.le_of_ble_eq_true rfl) d_R_step_155 (fun H locs x61 M62 hk hw => ?_)
      refine lv_istore_n (lv' := [(3, .int x61), (2, .int x59), (0, .ref (ad 0)), (1, .int x1)]) hx hb d_R_step_158 rfl hl (by decide) rfl (fun ls hl => ?_)
      refine lv_iload_n hx hb d_R_step_159 rfl (lv_at hl 0 rfl) ?_
      refine lv_bipush (v := 6) hx hb d_R_step_160 (by decide) ?_
      refine lv_ishr hx hb d_R_step_162 ?_
      refine lv_topi (fun x63 e_x63 => ?_)
      have hk := hk x63 e_x63
      refine lv_istore (lv' := [(4, .int x63), (3, .int x61), (2, .int x59), (0, .ref (ad 0)), (1, .int x1)]) hx hb d_R_step_163 hl (by decide) rfl (fun ls hl => ?_)
      refine lv_iload_n hx hb d_R_step_165 rfl (lv_at hl 1 rfl) ?_
      refine lv_iconst (v := 3) hx hb d_R_step_166 (by decide) ?_
      refine lv_ishr hx hb d_R_step_167 ?_
      refine lv_bipush (v := 7) hx hb d_R_step_168 (by decide) ?_
      refine lv_iand hx hb d_R_step_170 ?_
      refine lv_topi (fun x64 e_x64 => ?_)
      have hk := hk x64 e_x64
      refine lv_istore (lv' := [(5, .int x64), (4, .int x63), (3, .int x61), (2, .int x59), (0, .ref (ad 0)), (1, .int x1)]) hx hb d_R_step_171 hl (by decide) rfl (fun ls hl => ?_)
      refine lv_iload_n hx hb d_R_step_173 rfl (lv_at hl 2 rfl) ?_
      refine lv_bipush (v := 7) hx hb d_R_step_174 (by decide) ?_
      refine lv_iand hx hb d_R_step_176 ?_
      refine lv_topi (fun x65 e_x65 => ?_)
      have hk := hk x65 e_x65
      refine lv_istore (lv' := [(6, .int x65), (5, .int x64), (4, .int x63), (3, .int x61), (2, .int x59), (0, .ref (ad 0)), (1, .int x1)]) hx hb d_R_step_177 hl (by decide) rfl (fun ls hl => ?_)
      refine lv_iload hx hb d_R_step_179 (lv_at hl 2 rfl) ?_
      have hj2 : ∀ (H : Heap) (locs : List Loc) (ls : Array Slot) (M83 : Mem), wp_R_step_j2 x59 x61 M83 Q → Wd D (ceR ad cA) A s H locs M83 → lv_has ls 7 [(0, .ref (ad 0)), (1, .int x1), (2, .int x59), (3, .int x61), (4, .int x63), (5, .int x64), (6, .int x65)] → W p l e rm_R_step s m args below meth c H locs 0 0 QQ (F0 m 259 ls []) := by
        intro H locs ls M83 hk hw hl
        unfold wp_R_step_j2 at hk
        refine lv_aload_n hx hb d_R_step_259 rfl (lv_at hl 0 rfl) ?_
        refine g_R_locked hC hw q_19 d_R_step_260 ?_
        refine lv_if_eq (tgt := 273) hx hb d_R_step_263 (by decide) (fun hc => ?_) (fun hc => ?_)
        · have hk := hk.1 hc
          refine lv_iload_n hx hb d_R_step_273 rfl (lv_at hl 2 rfl) ?_
          have hj3 : ∀ (H : Heap) (locs : List Loc) (ls : Array Slot) (M87 : Mem), wp_R_step_j3 M87 Q → Wd D (ceR ad cA) A s H locs M87 → lv_has ls 7 [(0, .ref (ad 0)), (1, .int x1), (2, .int x59), (3, .int x61), (4, .int x63), (5, .int x64), (6, .int x65)] → W p l e rm_R_step s m args below meth c H locs 0 0 QQ (F0 m 289 ls []) := by
            intro H locs ls M87 hk hw hl
            unfold wp_R_step_j3 at hk
            refine lv_aload_n hx hb d_R_step_289 rfl (lv_at hl 0 rfl) ?_
            refine lv_dup hx hb d_R_step_290 rfl ?_
            refine g_R_instructions hC hw q_43 d_R_step_291 ?_
            refine lv_iconst (v := 1) hx hb d_R_step_294 (by decide) ?_
            refine lv_iadd hx hb d_R_step_295 ?_
            refine p_R_instructions hC hw q_43 d_R_step_296 (fun H locs M88 e_M88 hw => ?_)
            have hk := hk M88 e_M88
            refine lv_iconst (v := 1) hx hb d_R_step_299 (by decide) ?_
            exact rt_z hQQ hx hb hr hlk hw (Or.inr rfl) ⟨_, rfl, hk⟩ d_R_step_300
          refine lv_if_eq (tgt := 289) hx hb d_R_step_274 (by decide) (fun hc => ?_) (fun hc => ?_)
          · have hk := hk.1 hc
            exact hj3 _ _ _ _ hk hw (lv_sub hl [0, 1, 2, 3, 4, 5, 6] rfl)
          · have hk := hk.2 hc
            refine lv_iload_n hx hb d_R_step_277 rfl (lv_at hl 3 rfl) ?_
            refine lv_sipush (v := 243) hx hb d_R_step_278 (by decide) ?_
            refine lv_icmp_eq (tgt := 289) hx hb d_R_step_281 (by decide) (fun hc => ?_) (fun hc => ?_)
            · have hk := hk.1 hc
              exact hj3 _ _ _ _ hk hw (lv_sub hl [0, 1, 2, 3, 4, 5, 6] rfl)
            · have hk := hk.2 hc
              refine lv_aload_n hx hb d_R_step_284 rfl (lv_at hl 0 rfl) ?_
              refine lv_iconst (v := 1) hx hb d_R_step_285 (by decide) ?_
              refine p_R_ime hC hw (Or.inr rfl) q_17 d_R_step_286 (fun H locs M89 e_M89 hw => ?_)
              have hk := hk M89 e_M89
              exact hj3 _ _ _ _ hk hw (lv_sub hl [0, 1, 2, 3, 4, 5, 6] rfl)
        · have hk := hk.2 hc
          refine lv_aload_n hx hb d_R_step_266 rfl (lv_at hl 0 rfl) ?_
          refine lv_iconst (v := 0) hx hb d_R_step_267 (by decide) ?_
          refine p_R_cost hC hw q_69 d_R_step_268 (fun H locs M90 e_M90 hw => ?_)
          have hk := hk M90 e_M90
          refine lv_iconst (v := 0) hx hb d_R_step_271 (by decide) ?_
          exact rt_z hQQ hx hb hr hlk hw (Or.inl rfl) ⟨_, rfl, hk⟩ d_R_step_272
      refine lv_if_ne (tgt := 195) hx hb d_R_step_181 (by decide) (fun hc => ?_) (fun hc => ?_)
      · have hk := hk.1 hc
        refine lv_iload_n hx hb d_R_step_195 rfl (lv_at hl 3 rfl) ?_
        refine lv_bipush (v := 118) hx hb d_R_step_196 (by decide) ?_
        refine lv_icmp_ne (tgt := 209) hx hb d_R_step_198 (by decide) (fun hc => ?_) (fun hc => ?_)
        · have hk := hk.1 hc
          refine lv_iload hx hb d_R_step_209 (lv_at hl 2 rfl) ?_
          refine lv_iconst (v := 1) hx hb d_R_step_211 (by decide) ?_
          refine lv_icmp_ne (tgt := 230) hx hb d_R_step_212 (by decide) (fun hc => ?_) (fun hc => ?_)
          · have hk := hk.1 hc
            refine lv_iload hx hb d_R_step_230 (lv_at hl 2 rfl) ?_
            refine lv_iconst (v := 2) hx hb d_R_step_232 (by decide) ?_
            refine lv_icmp_ne (tgt := 251) hx hb d_R_step_233 (by decide) (fun hc => ?_) (fun hc => ?_)
            · have hk := hk.1 hc
              refine lv_aload_n hx hb d_R_step_251 rfl (lv_at hl 5 rfl) ?_
              refine lv_iload hx hb d_R_step_252 (lv_at hl 1 rfl) ?_
              refine lv_iload hx hb d_R_step_254 (lv_at hl 0 rfl) ?_
              refine cl_Vv (j := 0) (As := [.int x64, .int x65]) hC hw (ct_R_third _ _ _ _ hk) q_94 mw_R_third rfl ⟨rfl, rfl, Nat.le_of_ble_eq_true rfl, Nat.le_of_ble_eq_true rfl⟩ rfl rfl rfl hl.1 rfl (Nat.le_of_ble_eq_true rfl) d_R_step_256 (fun H locs M91 hk hw => ?_)
              exact hj2 _ _ _ _ hk hw (lv_sub hl [5, 6, 4, 3, 2, 1, 0] rfl)
            · have hk := hk.2 hc
              refine lv_aload_n hx hb d_R_step_236 rfl (lv_at hl 5 rfl) ?_
              refine lv_iload hx hb d_R_step_237 (lv_at hl 1 rfl) ?_
              refine lv_aload_n hx hb d_R_step_239 rfl (lv_at hl 5 rfl) ?_
              refine lv_iload hx hb d_R_step_240 (lv_at hl 0 rfl) ?_
              refine cl_Vi (j := 0) (As := [.int x65]) hC hw (ct_R_operand _ _ _ hk) q_86 mw_R_operand rfl ⟨rfl, rfl, Nat.le_of_ble_eq_true rfl, Nat.le_of_ble_eq_true rfl⟩ rfl rfl rfl hl.1 rfl (Nat.le_of_ble_eq_true rfl) d_R_step_242 (fun H locs x92 M93 hk hw => ?_)
              refine cl_Vv (j := 0) (As := [.int x64, .int x92]) hC hw (ct_R_reckons _ _ _ _ hk) q_93 mw_R_reckons rfl ⟨rfl, rfl, Nat.le_of_ble_eq_true rfl, Nat.le_of_ble_eq_true rfl⟩ rfl rfl rfl hl.1 rfl (Nat.le_of_ble_eq_true rfl) d_R_step_245 (fun H locs M94 hk hw => ?_)
              refine lv_goto (tgt := 259) hx hb d_R_step_248 (by decide) ?_
              exact hj2 _ _ _ _ hk hw (lv_sub hl [5, 6, 4, 3, 2, 1, 0] rfl)
          · have hk := hk.2 hc
            refine lv_aload_n hx hb d_R_step_215 rfl (lv_at hl 5 rfl) ?_
            refine lv_iload hx hb d_R_step_216 (lv_at hl 1 rfl) ?_
            refine lv_aload_n hx hb d_R_step_218 rfl (lv_at hl 5 rfl) ?_
            refine lv_iload hx hb d_R_step_219 (lv_at hl 0 rfl) ?_
            refine cl_Vi (j := 0) (As := [.int x65]) hC hw (ct_R_operand _ _ _ hk) q_86 mw_R_operand rfl ⟨rfl, rfl, Nat.le_of_ble_eq_true rfl, Nat.le_of_ble_eq_true rfl⟩ rfl rfl rfl hl.1 rfl (Nat.le_of_ble_eq_true rfl) d_R_step_221 (fun H locs x95 M96 hk hw => ?_)
            refine cl_Vv (j := 0) (As := [.int x64, .int x95]) hC hw (ct_R_setOperand _ _ _ _ hk) q_87 mw_R_setOperand rfl ⟨rfl, rfl, Nat.le_of_ble_eq_true rfl, Nat.le_of_ble_eq_true rfl⟩ rfl rfl rfl hl.1 rfl (Nat.le_of_ble_eq_true rfl) d_R_step_224 (fun H locs M97 hk hw => ?_)
            refine lv_goto (tgt := 259) hx hb d_R_step_227 (by decide) ?_
            exact hj2 _ _ _ _ hk hw (lv_sub hl [5, 6, 4, 3, 2, 1, 0] rfl)
        · have hk := hk.2 hc
          refine lv_aload_n hx hb d_R_step_201 rfl (lv_at hl 5 rfl) ?_
          refine lv_iconst (v := 1) hx hb d_R_step_202 (by decide) ?_
          refine p_R_halts hC hw (Or.inr rfl) q_18 d_R_step_203 (fun H locs M98 e_M98 hw => ?_)
          have hk := hk M98 e_M98
          refine lv_goto (tgt := 259) hx hb d_R_step_206 (by decide) ?_
          exact hj2 _ _ _ _ hk hw (lv_sub hl [5, 6, 4, 3, 2, 1, 0] rfl)
      · have hk := hk.2 hc
        refine lv_aload_n hx hb d_R_step_184 rfl (lv_at hl 5 rfl) ?_
        refine lv_iload hx hb d_R_step_185 (lv_at hl 1 rfl) ?_
        refine lv_iload hx hb d_R_step_187 (lv_at hl 0 rfl) ?_
        refine cl_Vv (j := 0) (As := [.int x64, .int x65]) hC hw (ct_R_first _ _ _ _ hk) q_95 mw_R_first rfl ⟨rfl, rfl, Nat.le_of_ble_eq_true rfl, Nat.le_of_ble_eq_true rfl⟩ rfl rfl rfl hl.1 rfl (Nat.le_of_ble_eq_true rfl) d_R_step_189 (fun H locs M99 hk hw => ?_)
        refine lv_goto (tgt := 259) hx hb d_R_step_192 (by decide) ?_
        exact hj2 _ _ _ _ hk hw (lv_sub hl [5, 6, 4, 3, 2, 1, 0] rfl)
    · have hk := hk.2 hc
      refine lv_aload_n hx hb d_R_step_127 rfl (lv_at hl 0 rfl) ?_
      refine lv_dup hx hb d_R_step_128 rfl ?_
      refine g_R_instructions hC hw q_43 d_R_step_129 ?_
      refine lv_iconst (v := 1) hx hb d_R_step_132 (by decide) ?_
      refine lv_iadd hx hb d_R_step_133 ?_
      refine p_R_instructions hC hw q_43 d_R_step_134 (fun H locs M100 e_M100 hw => ?_)
      have hk := hk M100 e_M100
      refine lv_aload_n hx hb d_R_step_137 rfl (lv_at hl 0 rfl) ?_
      refine lv_iconst (v := 1) hx hb d_R_step_138 (by decide) ?_
      refine p_R_cost hC hw q_69 d_R_step_139 (fun H locs M101 e_M101 hw => ?_)
      have hk := hk M101 e_M101
      refine lv_iconst (v := 1) hx hb d_R_step_142 (by decide) ?_
      exact rt_z hQQ hx hb hr hlk hw (Or.inr rfl) ⟨_, rfl, hk⟩ d_R_step_143
  refine lv_if_eq (tgt := 120) hx hb d_R_step_19 (by decide) (fun hc => ?_) (fun hc => ?_)
  · have hk := hk.1 hc
    exact hj1 _ _ _ _ hk hw (lv_sub hl [1, 0] rfl)
  · have hk := hk.2 hc
    refine lv_aload_n hx hb d_R_step_22 rfl (lv_at hl 1 rfl) ?_
    refine lv_iconst (v := 0) hx hb d_R_step_23 (by decide) ?_
    refine p_R_halts hC hw (Or.inl rfl) q_18 d_R_step_24 (fun H locs M102 e_M102 hw => ?_)
    have hk := hk M102 e_M102
    refine lv_aload_n hx hb d_R_step_27 rfl (lv_at hl 1 rfl) ?_
    refine g_R_ime hC hw q_17 d_R_step_28 ?_
    refine lv_if_eq (tgt := 120) hx hb d_R_step_31 (by decide) (fun hc => ?_) (fun hc => ?_)
    · have hk := hk.1 hc
      exact hj1 _ _ _ _ hk hw (lv_sub hl [1, 0] rfl)
    · have hk := hk.2 hc
      refine lv_iconst (v := 0) hx hb d_R_step_34 (by decide) ?_
      refine lv_istore_n (lv' := [(2, .int (0 : Int32)), (1, .int x1), (0, .ref (ad 0))]) hx hb d_R_step_35 rfl hl (by decide) rfl (fun ls hl => ?_)
      have hl1 : ∀ (n : Nat) (H : Heap) (locs : List Loc) (ls : Array Slot) (x103 : Int32), wp_R_step_l1 x1 M102 Q n x103 → Wd D (ceR ad cA) A s H locs M102 → lv_has ls 7 [(0, .ref (ad 0)), (1, .int x1), (2, .int x103)] → W p l e rm_R_step s m args below meth c H locs 0 0 QQ (F0 m 36 ls []) := by
        intro n
        induction n with
        | zero => intro H locs ls x103 hk; exact False.elim hk
        | succ n1 ih1 =>
          intro H locs ls x103 hk hw hl
          refine lv_iload_n hx hb d_R_step_36 rfl (lv_at hl 1 rfl) ?_
          refine lv_iload_n hx hb d_R_step_37 rfl (lv_at hl 2 rfl) ?_
          refine lv_ishr hx hb d_R_step_38 ?_
          refine lv_iconst (v := 1) hx hb d_R_step_39 (by decide) ?_
          refine lv_iand hx hb d_R_step_40 ?_
          refine lv_if_ne (tgt := 50) hx hb d_R_step_41 (by decide) (fun hc => ?_) (fun hc => ?_)
          · have hk := hk.1 hc
            refine lv_aload_n hx hb d_R_step_50 rfl (lv_at hl 0 rfl) ?_
            refine lv_iconst (v := 0) hx hb d_R_step_51 (by decide) ?_
            refine p_R_ime hC hw (Or.inl rfl) q_17 d_R_step_52 (fun H locs M104 e_M104 hw => ?_)
            have hk := hk M104 e_M104
            refine lv_aload_n hx hb d_R_step_55 rfl (lv_at hl 0 rfl) ?_
            refine lv_iconst (v := 0) hx hb d_R_step_56 (by decide) ?_
            refine p_R_soon hC hw (Or.inl rfl) q_20 d_R_step_57 (fun H locs M105 e_M105 hw => ?_)
            have hk := hk M105 e_M105
            refine lv_aload_n hx hb d_R_step_60 rfl (lv_at hl 0 rfl) ?_
            refine lv_dup hx hb d_R_step_61 rfl ?_
            refine g_R_flags hC hw q_26 d_R_step_62 ?_
            refine lv_iconst (v := 1) hx hb d_R_step_65 (by decide) ?_
            refine lv_iload_n hx hb d_R_step_66 rfl (lv_at hl 2 rfl) ?_
            refine lv_ishl hx hb d_R_step_67 ?_
            refine lv_iconst (v := (-1)) hx hb d_R_step_68 (by decide) ?_
            refine lv_ixor hx hb d_R_step_69 ?_
            refine lv_iand hx hb d_R_step_70 ?_
            refine p_R_flags hC hw q_26 d_R_step_71 (fun H locs M106 e_M106 hw => ?_)
            have hk := hk M106 e_M106
            refine lv_aload_n hx hb d_R_step_74 rfl (lv_at hl 0 rfl) ?_
            refine lv_aload_n hx hb d_R_step_75 rfl (lv_at hl 0 rfl) ?_
            refine g_R_pc hC hw q_16 d_R_step_76 ?_
            refine cl_Vv (j := 0) (As := [.int (M106 0 19)]) hC hw (ct_R_push _ _ _ hk) q_77 mw_R_push rfl ⟨rfl, rfl, Nat.le_of_ble_eq_true rfl, Nat.le_of_ble_eq_true rfl⟩ rfl rfl rfl hl.1 rfl (Nat.le_of_ble_eq_true rfl) d_R_step_79 (fun H locs M107 hk hw => ?_)
            refine lv_aload_n hx hb d_R_step_82 rfl (lv_at hl 0 rfl) ?_
            refine lv_bipush (v := 64) hx hb d_R_step_83 (by decide) ?_
            refine lv_bipush (v := 8) hx hb d_R_step_85 (by decide) ?_
            refine lv_iload_n hx hb d_R_step_87 rfl (lv_at hl 2 rfl) ?_
            refine lv_imul hx hb d_R_step_88 ?_
            refine lv_iadd hx hb d_R_step_89 ?_
            refine p_R_pc hC hw q_16 d_R_step_90 (fun H locs M108 e_M108 hw => ?_)
            have hk := hk M108 e_M108
            refine lv_aload_n hx hb d_R_step_93 rfl (lv_at hl 0 rfl) ?_
            refine lv_iconst (v := 5) hx hb d_R_step_94 (by decide) ?_
            refine p_R_cost hC hw q_69 d_R_step_95 (fun H locs M109 e_M109 hw => ?_)
            have hk := hk M109 e_M109
            refine lv_aload_n hx hb d_R_step_98 rfl (lv_at hl 0 rfl) ?_
            refine lv_dup hx hb d_R_step_99 rfl ?_
            refine g_R_interrupts hC hw q_44 d_R_step_100 ?_
            refine lv_iconst (v := 1) hx hb d_R_step_103 (by decide) ?_
            refine lv_iadd hx hb d_R_step_104 ?_
            refine p_R_interrupts hC hw q_44 d_R_step_105 (fun H locs M110 e_M110 hw => ?_)
            have hk := hk M110 e_M110
            refine lv_aload_n hx hb d_R_step_108 rfl (lv_at hl 0 rfl) ?_
            refine lv_dup hx hb d_R_step_109 rfl ?_
            refine g_R_instructions hC hw q_43 d_R_step_110 ?_
            refine lv_iconst (v := 1) hx hb d_R_step_113 (by decide) ?_
            refine lv_iadd hx hb d_R_step_114 ?_
            refine p_R_instructions hC hw q_43 d_R_step_115 (fun H locs M111 e_M111 hw => ?_)
            have hk := hk M111 e_M111
            refine lv_iconst (v := 1) hx hb d_R_step_118 (by decide) ?_
            exact rt_z hQQ hx hb hr hlk hw (Or.inr rfl) ⟨_, rfl, hk⟩ d_R_step_119
          · have hk := hk.2 hc
            obtain ⟨x112, e_x112⟩ : ∃ y : Int32, y = x103 + (1 : Int32) := ⟨_, rfl⟩
            have hk := hk x112 e_x112
            refine lv_iinc (v := x112) (lv' := [(2, .int x112), (0, .ref (ad 0)), (1, .int x1)]) hx hb d_R_step_44 hl (k := 2) rfl (by rw [e_x112]; rfl) (by decide) rfl (fun ls hl => ?_)
            refine lv_goto (tgt := 36) hx hb d_R_step_47 (by decide) ?_
            exact ih1 _ _ _ _ hk hw (lv_sub hl [1, 2, 0] rfl)
      obtain ⟨n, hk⟩ := hk
      exact hl1 n _ _ _ _ hk hw (lv_sub hl [2, 1, 0] rfl)
set_option maxHeartbeats 4000000 in
set_option maxRecDepth 100000 in
theorem ct_R_isSignal {l : Launch} {D : va_G} {cA : ClassId} {ad tb : Nat → Nat} (M0 : Mem) (Q : Int32 → Prop) (hk : wp_R_isSignal M0 Q) : Ct l y_R_isSignal ws_R_isSignal rm_R_isSignal D (ceR ad cA) cA tb [.ref (ad 0)] M0 (QIp M0 Q) := by
  refine Ct.of (own := "TileConsoleModel") (cc := b_R_isSignal) (maxL := 2) (ret := (some .boolean)) ceR_fix (by decide) rfl rfl (Nat.le_of_ble_eq_true rfl) ?_
  intro p e s m args below meth c A QQ ls H locs hQQ hC hr hlk hw hl
  have hx := hC.1.1
  have hb := hC.1.2.1
  unfold wp_R_isSignal at hk
  have hl : lv_has ls 2 [(0, .ref (ad 0))] := hl
  refine lv_aload_n hx hb d_R_isSignal_0 rfl (lv_at hl 0 rfl) ?_
  refine g_R_lcdc hC hw q_28 d_R_isSignal_1 ?_
  refine lv_sipush (v := 128) hx hb d_R_isSignal_4 (by decide) ?_
  refine lv_iand hx hb d_R_isSignal_7 ?_
  refine lv_if_ne (tgt := 13) hx hb d_R_isSignal_8 (by decide) (fun hc => ?_) (fun hc => ?_)
  · have hk := hk.1 hc
    refine lv_aload_n hx hb d_R_isSignal_13 rfl (lv_at hl 0 rfl) ?_
    refine cl_Vip (j := 0) (As := []) hC hw (ct_R_state _  _ hk) q_51 mw_R_state rfl ⟨rfl, rfl, Nat.le_of_ble_eq_true rfl, Nat.le_of_ble_eq_true rfl⟩ rfl rfl rfl hl.1 rfl (Nat.le_of_ble_eq_true rfl) d_R_isSignal_14 (fun H locs x1 hk hw => ?_)
    refine lv_istore_n (lv' := [(1, .int x1), (0, .ref (ad 0))]) hx hb d_R_isSignal_17 rfl hl (by decide) rfl (fun ls hl => ?_)
    refine lv_aload_n hx hb d_R_isSignal_18 rfl (lv_at hl 1 rfl) ?_
    refine g_R_stat hC hw q_29 d_R_isSignal_19 ?_
    refine lv_bipush (v := 64) hx hb d_R_isSignal_22 (by decide) ?_
    refine lv_iand hx hb d_R_isSignal_24 ?_
    have hj1 : ∀ (H : Heap) (locs : List Loc) (ls : Array Slot) (x3 : Int32), wp_R_isSignal_j1 x3 Q → Wd D (ceR ad cA) A s H locs M0 → lv_has ls 2 [(0, .ref (ad 0)), (1, .int x1)] → W p l e rm_R_isSignal s m args below meth c H locs 0 0 QQ (F0 m 88 ls [.int x3]) := by
      intro H locs ls x3 hk hw hl
      unfold wp_R_isSignal_j1 at hk
      obtain ⟨hz, hk⟩ := hk
      exact rt_z hQQ hx hb hr hlk hw hz ⟨rfl, _, rfl, hk⟩ d_R_isSignal_88
    have hj2 : ∀ (H : Heap) (locs : List Loc) (ls : Array Slot), wp_R_isSignal_j2 Q → Wd D (ceR ad cA) A s H locs M0 → lv_has ls 2 [(0, .ref (ad 0)), (1, .int x1)] → W p l e rm_R_isSignal s m args below meth c H locs 0 0 QQ (F0 m 83 ls []) := by
      intro H locs ls  hk hw hl
      unfold wp_R_isSignal_j2 at hk
      refine lv_iconst (v := 1) hx hb d_R_isSignal_83 (by decide) ?_
      refine lv_goto (tgt := 88) hx hb d_R_isSignal_84 (by decide) ?_
      exact hj1 _ _ _ _ hk hw (lv_sub hl [0, 1] rfl)
    have hj3 : ∀ (H : Heap) (locs : List Loc) (ls : Array Slot), wp_R_isSignal_j3 M0 x1 Q → Wd D (ceR ad cA) A s H locs M0 → lv_has ls 2 [(0, .ref (ad 0)), (1, .int x1)] → W p l e rm_R_isSignal s m args below meth c H locs 0 0 QQ (F0 m 39 ls []) := by
      intro H locs ls  hk hw hl
      unfold wp_R_isSignal_j3 at hk
      refine lv_aload_n hx hb d_R_isSignal_39 rfl (lv_at hl 0 rfl) ?_
      refine g_R_stat hC hw q_29 d_R_isSignal_40 ?_
      refine lv_bipush (v := 32) hx hb d_R_isSignal_43 (by decide) ?_
      refine lv_iand hx hb d_R_isSignal_45 ?_
      have hj4 : ∀ (H : Heap) (locs : List Loc) (ls : Array Slot), wp_R_isSignal_j4 M0 x1 Q → Wd D (ceR ad cA) A s H locs M0 → lv_has ls 2 [(0, .ref (ad 0)), (1, .int x1)] → W p l e rm_R_isSignal s m args below meth c H locs 0 0 QQ (F0 m 54 ls []) := by
        intro H locs ls  hk hw hl
        unfold wp_R_isSignal_j4 at hk
        refine lv_aload_n hx hb d_R_isSignal_54 rfl (lv_at hl 0 rfl) ?_
        refine g_R_stat hC hw q_29 d_R_isSignal_55 ?_
        refine lv_bipush (v := 16) hx hb d_R_isSignal_58 (by decide) ?_
        refine lv_iand hx hb d_R_isSignal_60 ?_
        have hj5 : ∀ (H : Heap) (locs : List Loc) (ls : Array Slot), wp_R_isSignal_j5 M0 x1 Q → Wd D (ceR ad cA) A s H locs M0 → lv_has ls 2 [(0, .ref (ad 0)), (1, .int x1)] → W p l e rm_R_isSignal s m args below meth c H locs 0 0 QQ (F0 m 69 ls []) := by
          intro H locs ls  hk hw hl
          unfold wp_R_isSignal_j5 at hk
          refine lv_aload_n hx hb d_R_isSignal_69 rfl (lv_at hl 0 rfl) ?_
          refine g_R_stat hC hw q_29 d_R_isSignal_70 ?_
          refine lv_bipush (v := 8) hx hb d_R_isSignal_73 (by decide) ?_
          refine lv_iand hx hb d_R_isSignal_75 ?_
          have hj6 : ∀ (H : Heap) (locs : List Loc) (ls : Array Slot), wp_R_isSignal_j6 Q → Wd D (ceR ad cA) A s H locs M0 → lv_has ls 2 [(0, .ref (ad 0)), (1, .int x1)] → W p l e rm_R_isSignal s m args below meth c H locs 0 0 QQ (F0 m 87 ls []) := by
            intro H locs ls  hk hw hl
            unfold wp_R_isSignal_j6 at hk
            refine lv_iconst (v := 0) hx hb d_R_isSignal_87 (by decide) ?_
            exact hj1 _ _ _ _ hk hw (lv_sub hl [0, 1] rfl)
          refine lv_if_le (tgt := 87) hx hb d_R_isSignal_76 (by decide) (fun hc => ?_) (fun hc => ?_)
          · have hk := hk.1 hc
            exact hj6 _ _ _  hk hw (lv_sub hl [0, 1] rfl)
          · have hk := hk.2 hc
            refine lv_iload_n hx hb d_R_isSignal_79 rfl (lv_at hl 1 rfl) ?_
            refine lv_if_ne (tgt := 87) hx hb d_R_isSignal_80 (by decide) (fun hc => ?_) (fun hc => ?_)
            · have hk := hk.1 hc
              exact hj6 _ _ _  hk hw (lv_sub hl [0, 1] rfl)
            · have hk := hk.2 hc
              exact hj2 _ _ _  hk hw (lv_sub hl [0, 1] rfl)
        refine lv_if_le (tgt := 69) hx hb d_R_isSignal_61 (by decide) (fun hc => ?_) (fun hc => ?_)
        · have hk := hk.1 hc
          exact hj5 _ _ _  hk hw (lv_sub hl [0, 1] rfl)
        · have hk := hk.2 hc
          refine lv_iload_n hx hb d_R_isSignal_64 rfl (lv_at hl 1 rfl) ?_
          refine lv_iconst (v := 1) hx hb d_R_isSignal_65 (by decide) ?_
          refine lv_icmp_eq (tgt := 83) hx hb d_R_isSignal_66 (by decide) (fun hc => ?_) (fun hc => ?_)
          · have hk := hk.1 hc
            exact hj2 _ _ _  hk hw (lv_sub hl [0, 1] rfl)
          · have hk := hk.2 hc
            exact hj5 _ _ _  hk hw (lv_sub hl [0, 1] rfl)
      refine lv_if_le (tgt := 54) hx hb d_R_isSignal_46 (by decide) (fun hc => ?_) (fun hc => ?_)
      · have hk := hk.1 hc
        exact hj4 _ _ _  hk hw (lv_sub hl [0, 1] rfl)
      · have hk := hk.2 hc
        refine lv_iload_n hx hb d_R_isSignal_49 rfl (lv_at hl 1 rfl) ?_
        refine lv_iconst (v := 2) hx hb d_R_isSignal_50 (by decide) ?_
        refine lv_icmp_eq (tgt := 83) hx hb d_R_isSignal_51 (by decide) (fun hc => ?_) (fun hc => ?_)
        · have hk := hk.1 hc
          exact hj2 _ _ _  hk hw (lv_sub hl [0, 1] rfl)
        · have hk := hk.2 hc
          exact hj4 _ _ _  hk hw (lv_sub hl [0, 1] rfl)
    refine lv_if_le (tgt := 39) hx hb d_R_isSignal_25 (by decide) (fun hc => ?_) (fun hc => ?_)
    · have hk := hk.1 hc
      exact hj3 _ _ _  hk hw (lv_sub hl [1, 0] rfl)
    · have hk := hk.2 hc
      refine lv_aload_n hx hb d_R_isSignal_28 rfl (lv_at hl 1 rfl) ?_
      refine g_R_ly hC hw q_32 d_R_isSignal_29 ?_
      refine lv_aload_n hx hb d_R_isSignal_32 rfl (lv_at hl 1 rfl) ?_
      refine g_R_lyc hC hw q_33 d_R_isSignal_33 ?_
      refine lv_icmp_eq (tgt := 83) hx hb d_R_isSignal_36 (by decide) (fun hc => ?_) (fun hc => ?_)
      · have hk := hk.1 hc
        exact hj2 _ _ _  hk hw (lv_sub hl [1, 0] rfl)
      · have hk := hk.2 hc
        exact hj3 _ _ _  hk hw (lv_sub hl [1, 0] rfl)
  · have hk := hk.2 hc
    refine lv_iconst (v := 0) hx hb d_R_isSignal_11 (by decide) ?_
    exact rt_z hQQ hx hb hr hlk hw (Or.inl rfl) ⟨rfl, _, rfl, hk⟩ d_R_isSignal_12
set_option maxHeartbeats 4000000 in
set_option maxRecDepth 100000 in
theorem ct_R_cycle {l : Launch} {D : va_G} {cA : ClassId} {ad tb : Nat → Nat} (M0 : Mem) (Q : Mem → Prop) (hk : wp_R_cycle M0 Q) : Ct l y_R_cycle ws_R_cycle rm_R_cycle D (ceR ad cA) cA tb [.ref (ad 0)] M0 (QV Q) := by
  refine Ct.of (own := "TileConsoleModel") (cc := b_R_cycle) (maxL := 3) (ret := none) ceR_fix (by decide) rfl rfl (Nat.le_of_ble_eq_true rfl) ?_
  intro p e s m args below meth c A QQ ls H locs hQQ hC hr hlk hw hl
  have hx := hC.1.1
  have hb := hC.1.2.1
  unfold wp_R_cycle at hk
  have hl : lv_has ls 3 [(0, .ref (ad 0))] := hl
  refine lv_aload_n hx hb d_R_cycle_0 rfl (lv_at hl 0 rfl) ?_
  refine lv_aload_n hx hb d_R_cycle_1 rfl (lv_at hl 0 rfl) ?_
  refine g_R_s hC hw q_22 d_R_cycle_2 ?_
  refine lv_iconst (v := 1) hx hb d_R_cycle_5 (by decide) ?_
  refine lv_iadd hx hb d_R_cycle_6 ?_
  refine lv_ldc (v := (65535 : Int32)) hx hb hC.1.2.2.2.1 (hC.1.2.2.2.2 _ q_59) d_R_cycle_7 ?_
  refine lv_iand hx hb d_R_cycle_9 ?_
  refine p_R_s hC hw q_22 d_R_cycle_10 (fun H locs M1 e_M1 hw => ?_)
  have hk := hk M1 e_M1
  refine lv_aload_n hx hb d_R_cycle_13 rfl (lv_at hl 0 rfl) ?_
  refine g_R_tac hC hw q_25 d_R_cycle_14 ?_
  refine lv_iconst (v := 3) hx hb d_R_cycle_17 (by decide) ?_
  refine lv_iand hx hb d_R_cycle_18 ?_
  have hj1 : ∀ (H : Heap) (locs : List Loc) (ls : Array Slot) (x99 : Int32), wp_R_cycle_j1 M1 x99 Q → Wd D (ceR ad cA) A s H locs M1 → lv_has ls 3 [(0, .ref (ad 0))] → W p l e rm_R_cycle s m args below meth c H locs 0 0 QQ (F0 m 59 ls [.int x99]) := by
    intro H locs ls x99 hk hw hl
    unfold wp_R_cycle_j1 at hk
    refine lv_istore_n (lv' := [(1, .int x99), (0, .ref (ad 0))]) hx hb d_R_cycle_59 rfl hl (by decide) rfl (fun ls hl => ?_)
    refine lv_aload_n hx hb d_R_cycle_60 rfl (lv_at hl 1 rfl) ?_
    refine g_R_tac hC hw q_25 d_R_cycle_61 ?_
    refine lv_iconst (v := 4) hx hb d_R_cycle_64 (by decide) ?_
    refine lv_iand hx hb d_R_cycle_65 ?_
    have hj2 : ∀ (H : Heap) (locs : List Loc) (ls : Array Slot) (M148 : Mem), wp_R_cycle_j2 M148 Q → Wd D (ceR ad cA) A s H locs M148 → lv_has ls 3 [(0, .ref (ad 0)), (1, .int x99)] → W p l e rm_R_cycle s m args below meth c H locs 0 0 QQ (F0 m 119 ls []) := by
      intro H locs ls M148 hk hw hl
      unfold wp_R_cycle_j2 at hk
      refine lv_aload_n hx hb d_R_cycle_119 rfl (lv_at hl 0 rfl) ?_
      refine g_R_lcdc hC hw q_28 d_R_cycle_120 ?_
      refine lv_sipush (v := 128) hx hb d_R_cycle_123 (by decide) ?_
      refine lv_iand hx hb d_R_cycle_126 ?_
      have hj3 : ∀ (H : Heap) (locs : List Loc) (ls : Array Slot) (M171 : Mem), wp_R_cycle_j3 M171 Q → Wd D (ceR ad cA) A s H locs M171 → lv_has ls 3 [(0, .ref (ad 0)), (1, .int x99)] → W p l e rm_R_cycle s m args below meth c H locs 0 0 QQ (F0 m 221 ls []) := by
        intro H locs ls M171 hk hw hl
        unfold wp_R_cycle_j3 at hk
        refine lv_aload_n hx hb d_R_cycle_221 rfl (lv_at hl 0 rfl) ?_
        refine cl_Vip (j := 0) (As := []) hC hw (ct_R_isSignal _  _ hk) q_96 mw_R_isSignal rfl ⟨rfl, rfl, Nat.le_of_ble_eq_true rfl, Nat.le_of_ble_eq_true rfl⟩ rfl rfl rfl hl.1 rfl (Nat.le_of_ble_eq_true rfl) d_R_cycle_222 (fun H locs x172 hk hw => ?_)
        refine lv_istore_n (lv' := [(2, .int x172), (0, .ref (ad 0)), (1, .int x99)]) hx hb d_R_cycle_225 rfl hl (by decide) rfl (fun ls hl => ?_)
        refine lv_iload_n hx hb d_R_cycle_226 rfl (lv_at hl 0 rfl) ?_
        have hj4 : ∀ (H : Heap) (locs : List Loc) (ls : Array Slot) (M177 : Mem), wp_R_cycle_j4 x172 M177 Q → Wd D (ceR ad cA) A s H locs M177 → lv_has ls 3 [(0, .ref (ad 0)), (1, .int x99), (2, .int x172)] → W p l e rm_R_cycle s m args below meth c H locs 0 0 QQ (F0 m 247 ls []) := by
          intro H locs ls M177 hk hw hl
          unfold wp_R_cycle_j4 at hk
          refine lv_aload_n hx hb d_R_cycle_247 rfl (lv_at hl 0 rfl) ?_
          refine lv_iload_n hx hb d_R_cycle_248 rfl (lv_at hl 2 rfl) ?_
          obtain ⟨hz, hk⟩ := hk
          refine p_R_signal hC hw hz q_41 d_R_cycle_249 (fun H locs M178 e_M178 hw => ?_)
          have hk := hk M178 e_M178
          refine lv_aload_n hx hb d_R_cycle_252 rfl (lv_at hl 0 rfl) ?_
          refine lv_dup hx hb d_R_cycle_253 rfl ?_
          refine g_R_cycles hC hw q_42 d_R_cycle_254 ?_
          refine lv_iconst (v := 1) hx hb d_R_cycle_257 (by decide) ?_
          refine lv_iadd hx hb d_R_cycle_258 ?_
          refine p_R_cycles hC hw q_42 d_R_cycle_259 (fun H locs M179 e_M179 hw => ?_)
          have hk := hk M179 e_M179
          exact rt_v hQQ hx hb hr hlk hw ⟨rfl, hk⟩ d_R_cycle_262
        refine lv_if_eq (tgt := 247) hx hb d_R_cycle_227 (by decide) (fun hc => ?_) (fun hc => ?_)
        · have hk := hk.1 hc
          exact hj4 _ _ _ _ hk hw (lv_sub hl [1, 2, 0] rfl)
        · have hk := hk.2 hc
          refine lv_aload_n hx hb d_R_cycle_230 rfl (lv_at hl 1 rfl) ?_
          refine g_R_signal hC hw q_41 d_R_cycle_231 ?_
          refine lv_if_ne (tgt := 247) hx hb d_R_cycle_234 (by decide) (fun hc => ?_) (fun hc => ?_)
          · have hk := hk.1 hc
            exact hj4 _ _ _ _ hk hw (lv_sub hl [1, 2, 0] rfl)
          · have hk := hk.2 hc
            refine lv_aload_n hx hb d_R_cycle_237 rfl (lv_at hl 1 rfl) ?_
            refine lv_dup hx hb d_R_cycle_238 rfl ?_
            refine g_R_flags hC hw q_26 d_R_cycle_239 ?_
            refine lv_iconst (v := 2) hx hb d_R_cycle_242 (by decide) ?_
            refine lv_ior hx hb d_R_cycle_243 ?_
            refine p_R_flags hC hw q_26 d_R_cycle_244 (fun H locs M180 e_M180 hw => ?_)
            have hk := hk M180 e_M180
            exact hj4 _ _ _ _ hk hw (lv_sub hl [1, 2, 0] rfl)
      refine lv_if_le (tgt := 211) hx hb d_R_cycle_127 (by decide) (fun hc => ?_) (fun hc => ?_)
      · have hk := hk.1 hc
        refine lv_aload_n hx hb d_R_cycle_211 rfl (lv_at hl 0 rfl) ?_
        refine lv_iconst (v := 0) hx hb d_R_cycle_212 (by decide) ?_
        refine p_R_dot hC hw q_40 d_R_cycle_213 (fun H locs M181 e_M181 hw => ?_)
        have hk := hk M181 e_M181
        refine lv_aload_n hx hb d_R_cycle_216 rfl (lv_at hl 0 rfl) ?_
        refine lv_iconst (v := 0) hx hb d_R_cycle_217 (by decide) ?_
        refine p_R_ly hC hw q_32 d_R_cycle_218 (fun H locs M182 e_M182 hw => ?_)
        have hk := hk M182 e_M182
        exact hj3 _ _ _ _ hk hw (lv_sub hl [0, 1] rfl)
      · have hk := hk.2 hc
        refine lv_aload_n hx hb d_R_cycle_130 rfl (lv_at hl 0 rfl) ?_
        refine lv_dup hx hb d_R_cycle_131 rfl ?_
        refine g_R_dot hC hw q_40 d_R_cycle_132 ?_
        refine lv_iconst (v := 1) hx hb d_R_cycle_135 (by decide) ?_
        refine lv_iadd hx hb d_R_cycle_136 ?_
        refine p_R_dot hC hw q_40 d_R_cycle_137 (fun H locs M183 e_M183 hw => ?_)
        have hk := hk M183 e_M183
        refine lv_aload_n hx hb d_R_cycle_140 rfl (lv_at hl 0 rfl) ?_
        refine g_R_dot hC hw q_40 d_R_cycle_141 ?_
        refine lv_bipush (v := 114) hx hb d_R_cycle_144 (by decide) ?_
        refine lv_icmp_ne (tgt := 221) hx hb d_R_cycle_146 (by decide) (fun hc => ?_) (fun hc => ?_)
        · have hk := hk.1 hc
          exact hj3 _ _ _ _ hk hw (lv_sub hl [0, 1] rfl)
        · have hk := hk.2 hc
          refine lv_aload_n hx hb d_R_cycle_149 rfl (lv_at hl 0 rfl) ?_
          refine lv_iconst (v := 0) hx hb d_R_cycle_150 (by decide) ?_
          refine p_R_dot hC hw q_40 d_R_cycle_151 (fun H locs M184 e_M184 hw => ?_)
          have hk := hk M184 e_M184
          refine lv_aload_n hx hb d_R_cycle_154 rfl (lv_at hl 0 rfl) ?_
          refine lv_aload_n hx hb d_R_cycle_155 rfl (lv_at hl 0 rfl) ?_
          refine g_R_ly hC hw q_32 d_R_cycle_156 ?_
          refine lv_sipush (v := 153) hx hb d_R_cycle_159 (by decide) ?_
          have hj5 : ∀ (H : Heap) (locs : List Loc) (ls : Array Slot) (x189 : Int32), wp_R_cycle_j5 M184 x189 Q → Wd D (ceR ad cA) A s H locs M184 → lv_has ls 3 [(0, .ref (ad 0)), (1, .int x99)] → W p l e rm_R_cycle s m args below meth c H locs 0 0 QQ (F0 m 175 ls [.int x189, .ref (ad 0)]) := by
            intro H locs ls x189 hk hw hl
            unfold wp_R_cycle_j5 at hk
            refine p_R_ly hC hw q_32 d_R_cycle_175 (fun H locs M190 e_M190 hw => ?_)
            have hk := hk M190 e_M190
            refine lv_aload_n hx hb d_R_cycle_178 rfl (lv_at hl 0 rfl) ?_
            refine g_R_ly hC hw q_32 d_R_cycle_179 ?_
            refine lv_sipush (v := 144) hx hb d_R_cycle_182 (by decide) ?_
            refine lv_icmp_ne (tgt := 221) hx hb d_R_cycle_185 (by decide) (fun hc => ?_) (fun hc => ?_)
            · have hk := hk.1 hc
              exact hj3 _ _ _ _ hk hw (lv_sub hl [0, 1] rfl)
            · have hk := hk.2 hc
              refine lv_aload_n hx hb d_R_cycle_188 rfl (lv_at hl 0 rfl) ?_
              refine lv_dup hx hb d_R_cycle_189 rfl ?_
              refine g_R_flags hC hw q_26 d_R_cycle_190 ?_
              refine lv_iconst (v := 1) hx hb d_R_cycle_193 (by decide) ?_
              refine lv_ior hx hb d_R_cycle_194 ?_
              refine p_R_flags hC hw q_26 d_R_cycle_195 (fun H locs M191 e_M191 hw => ?_)
              have hk := hk M191 e_M191
              refine lv_aload_n hx hb d_R_cycle_198 rfl (lv_at hl 0 rfl) ?_
              refine lv_dup hx hb d_R_cycle_199 rfl ?_
              refine g_R_frames hC hw q_45 d_R_cycle_200 ?_
              refine lv_iconst (v := 1) hx hb d_R_cycle_203 (by decide) ?_
              refine lv_iadd hx hb d_R_cycle_204 ?_
              refine p_R_frames hC hw q_45 d_R_cycle_205 (fun H locs M192 e_M192 hw => ?_)
              have hk := hk M192 e_M192
              refine lv_goto (tgt := 221) hx hb d_R_cycle_208 (by decide) ?_
              exact hj3 _ _ _ _ hk hw (lv_sub hl [0, 1] rfl)
          refine lv_icmp_ne (tgt := 169) hx hb d_R_cycle_162 (by decide) (fun hc => ?_) (fun hc => ?_)
          · have hk := hk.1 hc
            refine lv_aload_n hx hb d_R_cycle_169 rfl (lv_at hl 0 rfl) ?_
            refine g_R_ly hC hw q_32 d_R_cycle_170 ?_
            refine lv_iconst (v := 1) hx hb d_R_cycle_173 (by decide) ?_
            refine lv_iadd hx hb d_R_cycle_174 ?_
            exact hj5 _ _ _ _ hk hw (lv_sub hl [0, 1] rfl)
          · have hk := hk.2 hc
            refine lv_iconst (v := 0) hx hb d_R_cycle_165 (by decide) ?_
            refine lv_goto (tgt := 175) hx hb d_R_cycle_166 (by decide) ?_
            exact hj5 _ _ _ _ hk hw (lv_sub hl [0, 1] rfl)
    refine lv_if_le (tgt := 119) hx hb d_R_cycle_66 (by decide) (fun hc => ?_) (fun hc => ?_)
    · have hk := hk.1 hc
      exact hj2 _ _ _ _ hk hw (lv_sub hl [1, 0] rfl)
    · have hk := hk.2 hc
      refine lv_aload_n hx hb d_R_cycle_69 rfl (lv_at hl 1 rfl) ?_
      refine g_R_s hC hw q_22 d_R_cycle_70 ?_
      refine lv_iload_n hx hb d_R_cycle_73 rfl (lv_at hl 0 rfl) ?_
      obtain ⟨hn, hk⟩ := hk
      refine lv_irem hx hb d_R_cycle_74 hn ?_
      refine lv_if_ne (tgt := 119) hx hb d_R_cycle_75 (by decide) (fun hc => ?_) (fun hc => ?_)
      · have hk := hk.1 hc
        exact hj2 _ _ _ _ hk hw (lv_sub hl [1, 0] rfl)
      · have hk := hk.2 hc
        refine lv_aload_n hx hb d_R_cycle_78 rfl (lv_at hl 1 rfl) ?_
        refine g_R_tima hC hw q_23 d_R_cycle_79 ?_
        refine lv_sipush (v := 255) hx hb d_R_cycle_82 (by decide) ?_
        refine lv_icmp_ne (tgt := 109) hx hb d_R_cycle_85 (by decide) (fun hc => ?_) (fun hc => ?_)
        · have hk := hk.1 hc
          refine lv_aload_n hx hb d_R_cycle_109 rfl (lv_at hl 1 rfl) ?_
          refine lv_dup hx hb d_R_cycle_110 rfl ?_
          refine g_R_tima hC hw q_23 d_R_cycle_111 ?_
          refine lv_iconst (v := 1) hx hb d_R_cycle_114 (by decide) ?_
          refine lv_iadd hx hb d_R_cycle_115 ?_
          refine p_R_tima hC hw q_23 d_R_cycle_116 (fun H locs M193 e_M193 hw => ?_)
          have hk := hk M193 e_M193
          exact hj2 _ _ _ _ hk hw (lv_sub hl [1, 0] rfl)
        · have hk := hk.2 hc
          refine lv_aload_n hx hb d_R_cycle_88 rfl (lv_at hl 1 rfl) ?_
          refine lv_aload_n hx hb d_R_cycle_89 rfl (lv_at hl 1 rfl) ?_
          refine g_R_tma hC hw q_24 d_R_cycle_90 ?_
          refine p_R_tima hC hw q_23 d_R_cycle_93 (fun H locs M194 e_M194 hw => ?_)
          have hk := hk M194 e_M194
          refine lv_aload_n hx hb d_R_cycle_96 rfl (lv_at hl 1 rfl) ?_
          refine lv_dup hx hb d_R_cycle_97 rfl ?_
          refine g_R_flags hC hw q_26 d_R_cycle_98 ?_
          refine lv_iconst (v := 4) hx hb d_R_cycle_101 (by decide) ?_
          refine lv_ior hx hb d_R_cycle_102 ?_
          refine p_R_flags hC hw q_26 d_R_cycle_103 (fun H locs M195 e_M195 hw => ?_)
          have hk := hk M195 e_M195
          refine lv_goto (tgt := 119) hx hb d_R_cycle_106 (by decide) ?_
          exact hj2 _ _ _ _ hk hw (lv_sub hl [1, 0] rfl)
  refine lv_if_ne (tgt := 28) hx hb d_R_cycle_19 (by decide) (fun hc => ?_) (fun hc => ?_)
  · have hk := hk.1 hc
    refine lv_aload_n hx hb d_R_cycle_28 rfl (lv_at hl 0 rfl) ?_
    refine g_R_tac hC hw q_25 d_R_cycle_29 ?_
    refine lv_iconst (v := 3) hx hb d_R_cycle_32 (by decide) ?_
    refine lv_iand hx hb d_R_cycle_33 ?_
    refine lv_iconst (v := 1) hx hb d_R_cycle_34 (by decide) ?_
    refine lv_icmp_ne (tgt := 42) hx hb d_R_cycle_35 (by decide) (fun hc => ?_) (fun hc => ?_)
    · have hk := hk.1 hc
      refine lv_aload_n hx hb d_R_cycle_42 rfl (lv_at hl 0 rfl) ?_
      refine g_R_tac hC hw q_25 d_R_cycle_43 ?_
      refine lv_iconst (v := 3) hx hb d_R_cycle_46 (by decide) ?_
      refine lv_iand hx hb d_R_cycle_47 ?_
      refine lv_iconst (v := 2) hx hb d_R_cycle_48 (by decide) ?_
      refine lv_icmp_ne (tgt := 57) hx hb d_R_cycle_49 (by decide) (fun hc => ?_) (fun hc => ?_)
      · have hk := hk.1 hc
        refine lv_bipush (v := 64) hx hb d_R_cycle_57 (by decide) ?_
        exact hj1 _ _ _ _ hk hw (lv_sub hl [0] rfl)
      · have hk := hk.2 hc
        refine lv_bipush (v := 16) hx hb d_R_cycle_52 (by decide) ?_
        refine lv_goto (tgt := 59) hx hb d_R_cycle_54 (by decide) ?_
        exact hj1 _ _ _ _ hk hw (lv_sub hl [0] rfl)
    · have hk := hk.2 hc
      refine lv_iconst (v := 4) hx hb d_R_cycle_38 (by decide) ?_
      refine lv_goto (tgt := 59) hx hb d_R_cycle_39 (by decide) ?_
      exact hj1 _ _ _ _ hk hw (lv_sub hl [0] rfl)
  · have hk := hk.2 hc
    refine lv_sipush (v := 256) hx hb d_R_cycle_22 (by decide) ?_
    refine lv_goto (tgt := 59) hx hb d_R_cycle_25 (by decide) ?_
    exact hj1 _ _ _ _ hk hw (lv_sub hl [0] rfl)
