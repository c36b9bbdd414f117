set_option maxHeartbeats 4000000 in
set_option maxRecDepth 100000 in
theorem ct_R_adjusts {l : Launch} {D : va_G} {cA : ClassId} {ad tb : Nat → Nat} (M0 : Mem) (Q : Mem → Prop) (hk : wp_R_adjusts M0 Q) : Ct l y_R_adjusts ws_R_adjusts rm_R_adjusts D (ceR ad cA) cA tb [.ref (ad 0)] M0 (QV Q) := by
  refine Ct.of (own := "TileConsoleModel") (cc := b_R_adjusts) (maxL := 5) (ret := none) ceR_fix (by decide) rfl rfl (Nat.le_of_ble_eq_true rfl) ?_
  intro p e s m args below meth c A QQ ls H locs hQQ hC hr hlk hw hl
  have hx := hC.1.1
  have hb := hC.1.2.1
  unfold wp_R_adjusts at hk
  have hl : lv_has ls 5 [(0, .ref (ad 0))] := hl
  refine lv_aload_n hx hb d_R_adjusts_0 rfl (lv_at hl 0 rfl) ?_
  refine g_R_r hC hw q_13 d_R_adjusts_1 ?_
  refine lv_bipush (v := 7) hx hb d_R_adjusts_4 (by decide) ?_
  refine r_ld_8 (k := 7) hC hw (vin_lit rfl) (by decide) d_R_adjusts_6 ?_
  refine lv_topi (fun x1 e_x1 => ?_)
  have hk := hk x1 e_x1
  refine lv_istore_n (lv' := [(1, .int x1), (0, .ref (ad 0))]) hx hb d_R_adjusts_7 rfl hl (by decide) rfl (fun ls hl => ?_)
  refine lv_iload_n hx hb d_R_adjusts_8 rfl (lv_at hl 0 rfl) ?_
  refine lv_bipush (v := 15) hx hb d_R_adjusts_9 (by decide) ?_
  refine lv_iand hx hb d_R_adjusts_11 ?_
  refine lv_topi (fun x2 e_x2 => ?_)
  have hk := hk x2 e_x2
  refine lv_istore_n (lv' := [(2, .int x2), (1, .int x1), (0, .ref (ad 0))]) hx hb d_R_adjusts_12 rfl hl (by decide) rfl (fun ls hl => ?_)
  refine lv_iload_n hx hb d_R_adjusts_13 rfl (lv_at hl 1 rfl) ?_
  refine lv_istore_n (lv' := [(3, .int x1), (2, .int x2), (1, .int x1), (0, .ref (ad 0))]) hx hb d_R_adjusts_14 rfl hl (by decide) rfl (fun ls hl => ?_)
  refine lv_aload_n hx hb d_R_adjusts_15 rfl (lv_at hl 3 rfl) ?_
  refine lv_bipush (v := 16) hx hb d_R_adjusts_16 (by decide) ?_
  refine cl_Vip (j := 0) (As := [.int (16 : Int32)]) hC hw (ct_R_is _ _ _ hk) q_75 mw_R_is rfl ⟨rfl, rfl, Nat.le_of_ble_eq_true rfl, Nat.le_of_ble_eq_true rfl⟩ rfl rfl rfl hl.1 rfl (Nat.le_of_ble_eq_true rfl) d_R_adjusts_18 (fun H locs x3 hk hw => ?_)
  refine lv_istore (lv' := [(4, .int x3), (3, .int x1), (2, .int x2), (1, .int x1), (0, .ref (ad 0))]) hx hb d_R_adjusts_21 hl (by decide) rfl (fun ls hl => ?_)
  refine lv_aload_n hx hb d_R_adjusts_23 rfl (lv_at hl 4 rfl) ?_
  refine lv_bipush (v := 64) hx hb d_R_adjusts_24 (by decide) ?_
  refine cl_Vip (j := 0) (As := [.int (64 : Int32)]) hC hw (ct_R_is _ _ _ hk) q_75 mw_R_is rfl ⟨rfl, rfl, Nat.le_of_ble_eq_true rfl, Nat.le_of_ble_eq_true rfl⟩ rfl rfl rfl hl.1 rfl (Nat.le_of_ble_eq_true rfl) d_R_adjusts_26 (fun H locs x4 hk hw => ?_)
  have hj1 : ∀ (H : Heap) (locs : List Loc) (ls : Array Slot) (x34 : Int32) (x35 : Int32), wp_R_adjusts_j1 M0 x34 x35 Q → Wd D (ceR ad cA) A s H locs M0 → lv_has ls 5 [(0, .ref (ad 0)), (1, .int x1), (2, .int x2), (3, .int x34), (4, .int x35)] → W p l e rm_R_adjusts s m args below meth c H locs 0 0 QQ (F0 m 91 ls []) := by
    intro H locs ls x34 x35 hk hw hl
    unfold wp_R_adjusts_j1 at hk
    refine lv_aload_n hx hb d_R_adjusts_91 rfl (lv_at hl 0 rfl) ?_
    refine g_R_r hC hw q_13 d_R_adjusts_92 ?_
    refine lv_bipush (v := 7) hx hb d_R_adjusts_95 (by decide) ?_
    refine lv_iload_n hx hb d_R_adjusts_97 rfl (lv_at hl 3 rfl) ?_
    refine lv_sipush (v := 255) hx hb d_R_adjusts_98 (by decide) ?_
    refine lv_iand hx hb d_R_adjusts_101 ?_
    refine r_st_8 (k := 7) hC hw (vin_lit rfl) (by decide) d_R_adjusts_102 (fun H locs M36 e_M36 hw => ?_)
    have hk := hk M36 e_M36
    refine lv_aload_n hx hb d_R_adjusts_103 rfl (lv_at hl 0 rfl) ?_
    refine lv_aload_n hx hb d_R_adjusts_104 rfl (lv_at hl 0 rfl) ?_
    refine g_R_r hC hw q_13 d_R_adjusts_105 ?_
    refine lv_bipush (v := 7) hx hb d_R_adjusts_108 (by decide) ?_
    refine r_ld_8 (k := 7) hC hw (vin_lit rfl) (by decide) d_R_adjusts_110 ?_
    have hj2 : ∀ (H : Heap) (locs : List Loc) (ls : Array Slot) (x40 : Int32), wp_R_adjusts_j2 x35 M36 x40 Q → Wd D (ceR ad cA) A s H locs M36 → lv_has ls 5 [(0, .ref (ad 0)), (1, .int x1), (2, .int x2), (3, .int x34), (4, .int x35)] → W p l e rm_R_adjusts s m args below meth c H locs 0 0 QQ (F0 m 119 ls [.int x40, .ref (ad 0)]) := by
      intro H locs ls x40 hk hw hl
      unfold wp_R_adjusts_j2 at hk
      refine lv_aload_n hx hb d_R_adjusts_119 rfl (lv_at hl 0 rfl) ?_
      refine lv_bipush (v := 64) hx hb d_R_adjusts_120 (by decide) ?_
      refine cl_Vip (j := 0) (As := [.int (64 : Int32)]) hC hw (ct_R_is _ _ _ hk) q_75 mw_R_is rfl ⟨rfl, rfl, Nat.le_of_ble_eq_true rfl, Nat.le_of_ble_eq_true rfl⟩ rfl rfl rfl hl.1 rfl (Nat.le_of_ble_eq_true rfl) d_R_adjusts_122 (fun H locs x41 hk hw => ?_)
      refine lv_iconst (v := 0) hx hb d_R_adjusts_125 (by decide) ?_
      refine lv_iload hx hb d_R_adjusts_126 (lv_at hl 4 rfl) ?_
      refine cl_Vv (j := 0) (As := [.int x40, .int x41, .int (0 : Int32), .int x35]) hC hw (ct_R_flagged _ _ _ _ _ _ hk) q_76 mw_R_flagged rfl ⟨rfl, rfl, Nat.le_of_ble_eq_true rfl, Nat.le_of_ble_eq_true rfl⟩ rfl rfl rfl hl.1 rfl (Nat.le_of_ble_eq_true rfl) d_R_adjusts_128 (fun H locs M42 hk hw => ?_)
      exact rt_v hQQ hx hb hr hlk hw ⟨rfl, hk⟩ d_R_adjusts_131
    refine lv_if_ne (tgt := 118) hx hb d_R_adjusts_111 (by decide) (fun hc => ?_) (fun hc => ?_)
    · have hk := hk.1 hc
      refine lv_iconst (v := 0) hx hb d_R_adjusts_118 (by decide) ?_
      exact hj2 _ _ _ _ hk hw (lv_sub hl [0, 1, 2, 3, 4] rfl)
    · have hk := hk.2 hc
      refine lv_iconst (v := 1) hx hb d_R_adjusts_114 (by decide) ?_
      refine lv_goto (tgt := 119) hx hb d_R_adjusts_115 (by decide) ?_
      exact hj2 _ _ _ _ hk hw (lv_sub hl [0, 1, 2, 3, 4] rfl)
  refine lv_if_eq (tgt := 55) hx hb d_R_adjusts_29 (by decide) (fun hc => ?_) (fun hc => ?_)
  · have hk := hk.1 hc
    refine lv_iload hx hb d_R_adjusts_55 (lv_at hl 0 rfl) ?_
    have hj3 : ∀ (H : Heap) (locs : List Loc) (ls : Array Slot) (x49 : Int32) (x50 : Int32), wp_R_adjusts_j3 M0 x2 x49 x50 Q → Wd D (ceR ad cA) A s H locs M0 → lv_has ls 5 [(0, .ref (ad 0)), (1, .int x1), (2, .int x2), (3, .int x49), (4, .int x50)] → W p l e rm_R_adjusts s m args below meth c H locs 0 0 QQ (F0 m 73 ls []) := by
      intro H locs ls x49 x50 hk hw hl
      unfold wp_R_adjusts_j3 at hk
      refine lv_aload_n hx hb d_R_adjusts_73 rfl (lv_at hl 0 rfl) ?_
      refine lv_bipush (v := 32) hx hb d_R_adjusts_74 (by decide) ?_
      refine cl_Vip (j := 0) (As := [.int (32 : Int32)]) hC hw (ct_R_is _ _ _ hk) q_75 mw_R_is rfl ⟨rfl, rfl, Nat.le_of_ble_eq_true rfl, Nat.le_of_ble_eq_true rfl⟩ rfl rfl rfl hl.1 rfl (Nat.le_of_ble_eq_true rfl) d_R_adjusts_76 (fun H locs x51 hk hw => ?_)
      have hj4 : ∀ (H : Heap) (locs : List Loc) (ls : Array Slot), wp_R_adjusts_j4 M0 x49 x50 Q → Wd D (ceR ad cA) A s H locs M0 → lv_has ls 5 [(0, .ref (ad 0)), (1, .int x1), (2, .int x2), (3, .int x49), (4, .int x50)] → W p l e rm_R_adjusts s m args below meth c H locs 0 0 QQ (F0 m 88 ls []) := by
        intro H locs ls  hk hw hl
        unfold wp_R_adjusts_j4 at hk
        obtain ⟨x53, e_x53⟩ : ∃ y : Int32, y = x49 + (6 : Int32) := ⟨_, rfl⟩
        have hk := hk x53 e_x53
        refine lv_iinc (v := x53) (lv' := [(3, .int x53), (0, .ref (ad 0)), (1, .int x1), (2, .int x2), (4, .int x50)]) hx hb d_R_adjusts_88 hl (k := 3) rfl (by rw [e_x53]; rfl) (by decide) rfl (fun ls hl => ?_)
        exact hj1 _ _ _ _ _ hk hw (lv_sub hl [1, 2, 3, 0, 4] rfl)
      refine lv_if_ne (tgt := 88) hx hb d_R_adjusts_79 (by decide) (fun hc => ?_) (fun hc => ?_)
      · have hk := hk.1 hc
        exact hj4 _ _ _  hk hw (lv_sub hl [0, 1, 2, 3, 4] rfl)
      · have hk := hk.2 hc
        refine lv_iload_n hx hb d_R_adjusts_82 rfl (lv_at hl 2 rfl) ?_
        refine lv_bipush (v := 9) hx hb d_R_adjusts_83 (by decide) ?_
        refine lv_icmp_le (tgt := 91) hx hb d_R_adjusts_85 (by decide) (fun hc => ?_) (fun hc => ?_)
        · have hk := hk.1 hc
          exact hj1 _ _ _ _ _ hk hw (lv_sub hl [0, 1, 2, 3, 4] rfl)
        · have hk := hk.2 hc
          exact hj4 _ _ _  hk hw (lv_sub hl [0, 1, 2, 3, 4] rfl)
    have hj5 : ∀ (H : Heap) (locs : List Loc) (ls : Array Slot), wp_R_adjusts_j5 M0 x1 x2 Q → Wd D (ceR ad cA) A s H locs M0 → lv_has ls 5 [(0, .ref (ad 0)), (1, .int x1), (2, .int x2), (3, .int x1), (4, .int x3)] → W p l e rm_R_adjusts s m args below meth c H locs 0 0 QQ (F0 m 67 ls []) := by
      intro H locs ls  hk hw hl
      unfold wp_R_adjusts_j5 at hk
      obtain ⟨x54, e_x54⟩ : ∃ y : Int32, y = x1 + (96 : Int32) := ⟨_, rfl⟩
      have hk := hk x54 e_x54
      refine lv_iinc (v := x54) (lv' := [(3, .int x54), (0, .ref (ad 0)), (1, .int x1), (2, .int x2), (4, .int x3)]) hx hb d_R_adjusts_67 hl (k := 3) rfl (by rw [e_x54]; rfl) (by decide) rfl (fun ls hl => ?_)
      refine lv_iconst (v := 1) hx hb d_R_adjusts_70 (by decide) ?_
      refine lv_istore (lv' := [(4, .int (1 : Int32)), (3, .int x54), (0, .ref (ad 0)), (1, .int x1), (2, .int x2)]) hx hb d_R_adjusts_71 hl (by decide) rfl (fun ls hl => ?_)
      exact hj3 _ _ _ _ _ hk hw (lv_sub hl [2, 3, 4, 1, 0] rfl)
    refine lv_if_ne (tgt := 67) hx hb d_R_adjusts_57 (by decide) (fun hc => ?_) (fun hc => ?_)
    · have hk := hk.1 hc
      exact hj5 _ _ _  hk hw (lv_sub hl [4, 3, 2, 1, 0] rfl)
    · have hk := hk.2 hc
      refine lv_iload_n hx hb d_R_adjusts_60 rfl (lv_at hl 3 rfl) ?_
      refine lv_sipush (v := 153) hx hb d_R_adjusts_61 (by decide) ?_
      refine lv_icmp_le (tgt := 73) hx hb d_R_adjusts_64 (by decide) (fun hc => ?_) (fun hc => ?_)
      · have hk := hk.1 hc
        exact hj3 _ _ _ _ _ hk hw (lv_sub hl [4, 3, 2, 1, 0] rfl)
      · have hk := hk.2 hc
        exact hj5 _ _ _  hk hw (lv_sub hl [4, 3, 2, 1, 0] rfl)
  · have hk := hk.2 hc
    refine lv_iload hx hb d_R_adjusts_32 (lv_at hl 0 rfl) ?_
    have hj6 : ∀ (H : Heap) (locs : List Loc) (ls : Array Slot) (x59 : Int32), wp_R_adjusts_j6 M0 x3 x59 Q → Wd D (ceR ad cA) A s H locs M0 → lv_has ls 5 [(0, .ref (ad 0)), (1, .int x1), (2, .int x2), (3, .int x59), (4, .int x3)] → W p l e rm_R_adjusts s m args below meth c H locs 0 0 QQ (F0 m 40 ls []) := by
      intro H locs ls x59 hk hw hl
      unfold wp_R_adjusts_j6 at hk
      refine lv_aload_n hx hb d_R_adjusts_40 rfl (lv_at hl 0 rfl) ?_
      refine lv_bipush (v := 32) hx hb d_R_adjusts_41 (by decide) ?_
      refine cl_Vip (j := 0) (As := [.int (32 : Int32)]) hC hw (ct_R_is _ _ _ hk) q_75 mw_R_is rfl ⟨rfl, rfl, Nat.le_of_ble_eq_true rfl, Nat.le_of_ble_eq_true rfl⟩ rfl rfl rfl hl.1 rfl (Nat.le_of_ble_eq_true rfl) d_R_adjusts_43 (fun H locs x60 hk hw => ?_)
      refine lv_if_eq (tgt := 91) hx hb d_R_adjusts_46 (by decide) (fun hc => ?_) (fun hc => ?_)
      · have hk := hk.1 hc
        exact hj1 _ _ _ _ _ hk hw (lv_sub hl [0, 1, 2, 3, 4] rfl)
      · have hk := hk.2 hc
        obtain ⟨x61, e_x61⟩ : ∃ y : Int32, y = x59 + (-6 : Int32) := ⟨_, rfl⟩
        have hk := hk x61 e_x61
        refine lv_iinc (v := x61) (lv' := [(3, .int x61), (0, .ref (ad 0)), (1, .int x1), (2, .int x2), (4, .int x3)]) hx hb d_R_adjusts_49 hl (k := 3) rfl (by rw [e_x61]; rfl) (by decide) rfl (fun ls hl => ?_)
        refine lv_goto (tgt := 91) hx hb d_R_adjusts_52 (by decide) ?_
        exact hj1 _ _ _ _ _ hk hw (lv_sub hl [1, 2, 3, 0, 4] rfl)
    refine lv_if_eq (tgt := 40) hx hb d_R_adjusts_34 (by decide) (fun hc => ?_) (fun hc => ?_)
    · have hk := hk.1 hc
      exact hj6 _ _ _ _ hk hw (lv_sub hl [4, 3, 2, 1, 0] rfl)
    · have hk := hk.2 hc
      obtain ⟨x62, e_x62⟩ : ∃ y : Int32, y = x1 + (-96 : Int32) := ⟨_, rfl⟩
      have hk := hk x62 e_x62
      refine lv_iinc (v := x62) (lv' := [(3, .int x62), (4, .int x3), (2, .int x2), (1, .int x1), (0, .ref (ad 0))]) hx hb d_R_adjusts_37 hl (k := 1) rfl (by rw [e_x62]; rfl) (by decide) rfl (fun ls hl => ?_)
      exact hj6 _ _ _ _ hk hw (lv_sub hl [4, 3, 2, 0, 1] rfl)
set_option maxHeartbeats 4000000 in
set_option maxRecDepth 100000 in
theorem ct_R_jumps {l : Launch} {D : va_G} {cA : ClassId} {ad tb : Nat → Nat} (M0 : Mem) (a1 : Int32) (a2 : Int32) (Q : Mem → Prop) (hk : wp_R_jumps M0 a1 a2 Q) : Ct l y_R_jumps ws_R_jumps rm_R_jumps D (ceR ad cA) cA tb [.ref (ad 0), .int a1, .int a2] M0 (QV Q) := by
  refine Ct.of (own := "TileConsoleModel") (cc := b_R_jumps) (maxL := 3) (ret := none) ceR_fix (by decide) rfl rfl (Nat.le_of_ble_eq_true rfl) ?_
  intro p e s m args below meth c A QQ ls H locs hQQ hC hr hlk hw hl
  have hx := hC.1.1
  have hb := hC.1.2.1
  unfold wp_R_jumps at hk
  have hl : lv_has ls 3 [(0, .ref (ad 0)), (1, .int a1), (2, .int a2)] := hl
  refine lv_iload_n hx hb d_R_jumps_0 rfl (lv_at hl 1 rfl) ?_
  refine lv_if_ne (tgt := 5) hx hb d_R_jumps_1 (by decide) (fun hc => ?_) (fun hc => ?_)
  · have hk := hk.1 hc
    refine lv_aload_n hx hb d_R_jumps_5 rfl (lv_at hl 0 rfl) ?_
    refine lv_iload_n hx hb d_R_jumps_6 rfl (lv_at hl 2 rfl) ?_
    refine lv_ldc (v := (65535 : Int32)) hx hb hC.1.2.2.2.1 (hC.1.2.2.2.2 _ q_59) d_R_jumps_7 ?_
    refine lv_iand hx hb d_R_jumps_9 ?_
    refine p_R_pc hC hw q_16 d_R_jumps_10 (fun H locs M1 e_M1 hw => ?_)
    have hk := hk M1 e_M1
    refine lv_aload_n hx hb d_R_jumps_13 rfl (lv_at hl 0 rfl) ?_
    refine lv_dup hx hb d_R_jumps_14 rfl ?_
    refine g_R_cost hC hw q_69 d_R_jumps_15 ?_
    refine lv_iconst (v := 1) hx hb d_R_jumps_18 (by decide) ?_
    refine lv_iadd hx hb d_R_jumps_19 ?_
    refine p_R_cost hC hw q_69 d_R_jumps_20 (fun H locs M2 e_M2 hw => ?_)
    have hk := hk M2 e_M2
    exact rt_v hQQ hx hb hr hlk hw ⟨rfl, hk⟩ d_R_jumps_23
  · have hk := hk.2 hc
    exact rt_v hQQ hx hb hr hlk hw ⟨rfl, hk⟩ d_R_jumps_4
set_option maxHeartbeats 4000000 in
set_option maxRecDepth 100000 in
theorem ct_R_calls {l : Launch} {D : va_G} {cA : ClassId} {ad tb : Nat → Nat} (M0 : Mem) (a1 : Int32) (a2 : Int32) (Q : Mem → Prop) (hk : wp_R_calls M0 a1 a2 Q) : Ct l y_R_calls ws_R_calls rm_R_calls D (ceR ad cA) cA tb [.ref (ad 0), .int a1, .int a2] M0 (QV Q) := by
  refine Ct.of (own := "TileConsoleModel") (cc := b_R_calls) (maxL := 3) (ret := none) ceR_fix (by decide) rfl rfl (Nat.le_of_ble_eq_true rfl) ?_
  intro p e s m args below meth c A QQ ls H locs hQQ hC hr hlk hw hl
  have hx := hC.1.1
  have hb := hC.1.2.1
  unfold wp_R_calls at hk
  have hl : lv_has ls 3 [(0, .ref (ad 0)), (1, .int a1), (2, .int a2)] := hl
  refine lv_iload_n hx hb d_R_calls_0 rfl (lv_at hl 1 rfl) ?_
  refine lv_if_ne (tgt := 5) hx hb d_R_calls_1 (by decide) (fun hc => ?_) (fun hc => ?_)
  · have hk := hk.1 hc
    refine lv_aload_n hx hb d_R_calls_5 rfl (lv_at hl 0 rfl) ?_
    refine lv_aload_n hx hb d_R_calls_6 rfl (lv_at hl 0 rfl) ?_
    refine g_R_pc hC hw q_16 d_R_calls_7 ?_
    refine cl_Vv (j := 0) (As := [.int (M0 0 19)]) hC hw (ct_R_push _ _ _ hk) q_77 mw_R_push rfl ⟨rfl, rfl, Nat.le_of_ble_eq_true rfl, Nat.le_of_ble_eq_true rfl⟩ rfl rfl rfl hl.1 rfl (Nat.le_of_ble_eq_true rfl) d_R_calls_10 (fun H locs M1 hk hw => ?_)
    refine lv_aload_n hx hb d_R_calls_13 rfl (lv_at hl 0 rfl) ?_
    refine lv_iload_n hx hb d_R_calls_14 rfl (lv_at hl 2 rfl) ?_
    refine p_R_pc hC hw q_16 d_R_calls_15 (fun H locs M2 e_M2 hw => ?_)
    have hk := hk M2 e_M2
    refine lv_aload_n hx hb d_R_calls_18 rfl (lv_at hl 0 rfl) ?_
    refine lv_dup hx hb d_R_calls_19 rfl ?_
    refine g_R_cost hC hw q_69 d_R_calls_20 ?_
    refine lv_iconst (v := 1) hx hb d_R_calls_23 (by decide) ?_
    refine lv_iadd hx hb d_R_calls_24 ?_
    refine p_R_cost hC hw q_69 d_R_calls_25 (fun H locs M3 e_M3 hw => ?_)
    have hk := hk M3 e_M3
    exact rt_v hQQ hx hb hr hlk hw ⟨rfl, hk⟩ d_R_calls_28
  · have hk := hk.2 hc
    exact rt_v hQQ hx hb hr hlk hw ⟨rfl, hk⟩ d_R_calls_4
set_option maxHeartbeats 4000000 in
set_option maxRecDepth 100000 in
theorem ct_R_accumulator {l : Launch} {D : va_G} {cA : ClassId} {ad tb : Nat → Nat} (M0 : Mem) (a1 : Int32) (Q : Mem → Prop) (hk : wp_R_accumulator M0 a1 Q) : Ct l y_R_accumulator ws_R_accumulator rm_R_accumulator D (ceR ad cA) cA tb [.ref (ad 0), .int a1] M0 (QV Q) := by
  refine Ct.of (own := "TileConsoleModel") (cc := b_R_accumulator) (maxL := 2) (ret := none) ceR_fix (by decide) rfl rfl (Nat.le_of_ble_eq_true rfl) ?_
  intro p e s m args below meth c A QQ ls H locs hQQ hC hr hlk hw hl
  have hx := hC.1.1
  have hb := hC.1.2.1
  unfold wp_R_accumulator at hk
  have hl : lv_has ls 2 [(0, .ref (ad 0)), (1, .int a1)] := hl
  refine lv_iload_n hx hb d_R_accumulator_0 rfl (lv_at hl 1 rfl) ?_
  have hj1 : ∀ (H : Heap) (locs : List Loc) (ls : Array Slot) (M20 : Mem), wp_R_accumulator_j1 M20 Q → Wd D (ceR ad cA) A s H locs M20 → lv_has ls 2 [(0, .ref (ad 0)), (1, .int a1)] → W p l e rm_R_accumulator s m args below meth c H locs 0 0 QQ (F0 m 139 ls []) := by
    intro H locs ls M20 hk hw hl
    unfold wp_R_accumulator_j1 at hk
    exact rt_v hQQ hx hb hr hlk hw ⟨rfl, hk⟩ d_R_accumulator_139
  by_cases hs1 : (a1 = (4 : Int32))
  · have hk := hk.1 hs1
    refine lv_tableIn (x := a1) (off := 31) (tgt := 32) hx hb d_R_accumulator_1 (by rw [hs1]; decide) (by rw [hs1]; decide) (by rw [hs1]; decide) (by decide) ?_
    refine lv_aload_n hx hb d_R_accumulator_32 rfl (lv_at hl 0 rfl) ?_
    refine cl_Vv (j := 0) (As := []) hC hw (ct_R_adjusts _  _ hk) q_78 mw_R_adjusts rfl ⟨rfl, rfl, Nat.le_of_ble_eq_true rfl, Nat.le_of_ble_eq_true rfl⟩ rfl rfl rfl hl.1 rfl (Nat.le_of_ble_eq_true rfl) d_R_accumulator_33 (fun H locs M21 hk hw => ?_)
    refine lv_goto (tgt := 139) hx hb d_R_accumulator_36 (by decide) ?_
    exact hj1 _ _ _ _ hk hw (lv_sub hl [0, 1] rfl)
  · have hk := hk.2 hs1
    by_cases hs2 : (a1 = (5 : Int32))
    · have hk := hk.1 hs2
      refine lv_tableIn (x := a1) (off := 38) (tgt := 39) hx hb d_R_accumulator_1 (by rw [hs2]; decide) (by rw [hs2]; decide) (by rw [hs2]; decide) (by decide) ?_
      refine lv_aload_n hx hb d_R_accumulator_39 rfl (lv_at hl 0 rfl) ?_
      refine g_R_r hC hw q_13 d_R_accumulator_40 ?_
      refine lv_bipush (v := 7) hx hb d_R_accumulator_43 (by decide) ?_
      refine lv_dup2_11 hx hb d_R_accumulator_45 rfl rfl ?_
      refine r_ld_8 (k := 7) hC hw (vin_lit rfl) (by decide) d_R_accumulator_46 ?_
      refine lv_sipush (v := 255) hx hb d_R_accumulator_47 (by decide) ?_
      refine lv_ixor hx hb d_R_accumulator_50 ?_
      refine r_st_8 (k := 7) hC hw (vin_lit rfl) (by decide) d_R_accumulator_51 (fun H locs M22 e_M22 hw => ?_)
      have hk := hk M22 e_M22
      refine lv_aload_n hx hb d_R_accumulator_52 rfl (lv_at hl 0 rfl) ?_
      refine lv_bipush (v := 64) hx hb d_R_accumulator_53 (by decide) ?_
      refine lv_iconst (v := 1) hx hb d_R_accumulator_55 (by decide) ?_
      refine cl_Vv (j := 0) (As := [.int (64 : Int32), .int (1 : Int32)]) hC hw (ct_R_flag _ _ _ _ hk) q_79 mw_R_flag rfl ⟨rfl, rfl, Nat.le_of_ble_eq_true rfl, Nat.le_of_ble_eq_true rfl⟩ rfl rfl rfl hl.1 rfl (Nat.le_of_ble_eq_true rfl) d_R_accumulator_56 (fun H locs M23 hk hw => ?_)
      refine lv_aload_n hx hb d_R_accumulator_59 rfl (lv_at hl 0 rfl) ?_
      refine lv_bipush (v := 32) hx hb d_R_accumulator_60 (by decide) ?_
      refine lv_iconst (v := 1) hx hb d_R_accumulator_62 (by decide) ?_
      refine cl_Vv (j := 0) (As := [.int (32 : Int32), .int (1 : Int32)]) hC hw (ct_R_flag _ _ _ _ hk) q_79 mw_R_flag rfl ⟨rfl, rfl, Nat.le_of_ble_eq_true rfl, Nat.le_of_ble_eq_true rfl⟩ rfl rfl rfl hl.1 rfl (Nat.le_of_ble_eq_true rfl) d_R_accumulator_63 (fun H locs M24 hk hw => ?_)
      refine lv_goto (tgt := 139) hx hb d_R_accumulator_66 (by decide) ?_
      exact hj1 _ _ _ _ hk hw (lv_sub hl [0, 1] rfl)
    · have hk := hk.2 hs2
      by_cases hs3 : (a1 = (6 : Int32) ∨ a1 = (7 : Int32))
      · have hk := hk.1 hs3
        have hW : W p l e rm_R_accumulator s m args below meth c H locs 0 0 QQ (F0 m 69 ls []) := by
          refine lv_aload_n hx hb d_R_accumulator_69 rfl (lv_at hl 0 rfl) ?_
          refine lv_bipush (v := 16) hx hb d_R_accumulator_70 (by decide) ?_
          refine lv_iload_n hx hb d_R_accumulator_72 rfl (lv_at hl 1 rfl) ?_
          refine lv_bipush (v := 6) hx hb d_R_accumulator_73 (by decide) ?_
          have hj2 : ∀ (H : Heap) (locs : List Loc) (ls : Array Slot) (x30 : Int32), wp_R_accumulator_j2 M0 x30 Q → Wd D (ceR ad cA) A s H locs M0 → lv_has ls 2 [(0, .ref (ad 0)), (1, .int a1)] → W p l e rm_R_accumulator s m args below meth c H locs 0 0 QQ (F0 m 92 ls [.int x30, .int (16 : Int32), .ref (ad 0)]) := by
            intro H locs ls x30 hk hw hl
            unfold wp_R_accumulator_j2 at hk
            refine cl_Vv (j := 0) (As := [.int (16 : Int32), .int x30]) hC hw (ct_R_flag _ _ _ _ hk) q_79 mw_R_flag rfl ⟨rfl, rfl, Nat.le_of_ble_eq_true rfl, Nat.le_of_ble_eq_true rfl⟩ rfl rfl rfl hl.1 rfl (Nat.le_of_ble_eq_true rfl) d_R_accumulator_92 (fun H locs M31 hk hw => ?_)
            refine lv_aload_n hx hb d_R_accumulator_95 rfl (lv_at hl 0 rfl) ?_
            refine lv_bipush (v := 64) hx hb d_R_accumulator_96 (by decide) ?_
            refine lv_iconst (v := 0) hx hb d_R_accumulator_98 (by decide) ?_
            refine cl_Vv (j := 0) (As := [.int (64 : Int32), .int (0 : Int32)]) hC hw (ct_R_flag _ _ _ _ hk) q_79 mw_R_flag rfl ⟨rfl, rfl, Nat.le_of_ble_eq_true rfl, Nat.le_of_ble_eq_true rfl⟩ rfl rfl rfl hl.1 rfl (Nat.le_of_ble_eq_true rfl) d_R_accumulator_99 (fun H locs M32 hk hw => ?_)
            refine lv_aload_n hx hb d_R_accumulator_102 rfl (lv_at hl 0 rfl) ?_
            refine lv_bipush (v := 32) hx hb d_R_accumulator_103 (by decide) ?_
            refine lv_iconst (v := 0) hx hb d_R_accumulator_105 (by decide) ?_
            refine cl_Vv (j := 0) (As := [.int (32 : Int32), .int (0 : Int32)]) hC hw (ct_R_flag _ _ _ _ hk) q_79 mw_R_flag rfl ⟨rfl, rfl, Nat.le_of_ble_eq_true rfl, Nat.le_of_ble_eq_true rfl⟩ rfl rfl rfl hl.1 rfl (Nat.le_of_ble_eq_true rfl) d_R_accumulator_106 (fun H locs M33 hk hw => ?_)
            refine lv_goto (tgt := 139) hx hb d_R_accumulator_109 (by decide) ?_
            exact hj1 _ _ _ _ hk hw (lv_sub hl [0, 1] rfl)
          have hj3 : ∀ (H : Heap) (locs : List Loc) (ls : Array Slot), wp_R_accumulator_j3 M0 Q → Wd D (ceR ad cA) A s H locs M0 → lv_has ls 2 [(0, .ref (ad 0)), (1, .int a1)] → W p l e rm_R_accumulator s m args below meth c H locs 0 0 QQ (F0 m 87 ls [.int (16 : Int32), .ref (ad 0)]) := by
            intro H locs ls  hk hw hl
            unfold wp_R_accumulator_j3 at hk
            refine lv_iconst (v := 1) hx hb d_R_accumulator_87 (by decide) ?_
            refine lv_goto (tgt := 92) hx hb d_R_accumulator_88 (by decide) ?_
            exact hj2 _ _ _ _ hk hw (lv_sub hl [0, 1] rfl)
          refine lv_icmp_eq (tgt := 87) hx hb d_R_accumulator_75 (by decide) (fun hc => ?_) (fun hc => ?_)
          · have hk := hk.1 hc
            exact hj3 _ _ _  hk hw (lv_sub hl [0, 1] rfl)
          · have hk := hk.2 hc
            refine lv_aload_n hx hb d_R_accumulator_78 rfl (lv_at hl 0 rfl) ?_
            refine lv_bipush (v := 16) hx hb d_R_accumulator_79 (by decide) ?_
            refine cl_Vip (j := 0) (As := [.int (16 : Int32)]) hC hw (ct_R_is _ _ _ hk) q_75 mw_R_is rfl ⟨rfl, rfl, Nat.le_of_ble_eq_true rfl, Nat.le_of_ble_eq_true rfl⟩ rfl rfl rfl hl.1 rfl (Nat.le_of_ble_eq_true rfl) d_R_accumulator_81 (fun H locs x34 hk hw => ?_)
            refine lv_if_ne (tgt := 91) hx hb d_R_accumulator_84 (by decide) (fun hc => ?_) (fun hc => ?_)
            · have hk := hk.1 hc
              refine lv_iconst (v := 0) hx hb d_R_accumulator_91 (by decide) ?_
              exact hj2 _ _ _ _ hk hw (lv_sub hl [0, 1] rfl)
            · have hk := hk.2 hc
              exact hj3 _ _ _  hk hw (lv_sub hl [0, 1] rfl)
        rcases hs3 with hs3 | hs3
        · exact lv_tableIn (x := a1) (off := 68) (tgt := 69) hx hb d_R_accumulator_1 (by rw [hs3]; decide) (by rw [hs3]; decide) (by rw [hs3]; decide) (by decide) hW
        · exact lv_tableIn (x := a1) (off := 68) (tgt := 69) hx hb d_R_accumulator_1 (by rw [hs3]; decide) (by rw [hs3]; decide) (by rw [hs3]; decide) (by decide) hW
      · have hk := hk.2 hs3
        have hs4 : ¬ a1 = (6 : Int32) := fun z => hs3 (by simp [z])
        have hs5 : ¬ a1 = (7 : Int32) := fun z => hs3 (by simp [z])
        refine lv_tableOut (x := a1) (tgt := 112) hx hb d_R_accumulator_1 (by have hz := (⟨lv_neT hs1 (show ((4 : Int32)).toInt = 4 by decide), lv_neT hs2 (show ((5 : Int32)).toInt = 5 by decide), lv_neT hs4 (show ((6 : Int32)).toInt = 6 by decide), lv_neT hs5 (show ((7 : Int32)).toInt = 7 by decide)⟩ : ¬ (a1).toInt = 4 ∧ ¬ (a1).toInt = 5 ∧ ¬ (a1).toInt = 6 ∧ ¬ (a1).toInt = 7); omega) (by decide) ?_
        refine lv_aload_n hx hb d_R_accumulator_112 rfl (lv_at hl 0 rfl) ?_
        refine g_R_r hC hw q_13 d_R_accumulator_113 ?_
        refine lv_bipush (v := 7) hx hb d_R_accumulator_116 (by decide) ?_
        refine lv_aload_n hx hb d_R_accumulator_118 rfl (lv_at hl 0 rfl) ?_
        refine lv_iload_n hx hb d_R_accumulator_119 rfl (lv_at hl 1 rfl) ?_
        refine lv_aload_n hx hb d_R_accumulator_120 rfl (lv_at hl 0 rfl) ?_
        refine g_R_r hC hw q_13 d_R_accumulator_121 ?_
        refine lv_bipush (v := 7) hx hb d_R_accumulator_124 (by decide) ?_
        refine r_ld_8 (k := 7) hC hw (vin_lit rfl) (by decide) d_R_accumulator_126 ?_
        refine cl_Vi (j := 0) (As := [.int a1, .int (M0 8 7)]) hC hw (ct_R_turned _ _ _ _ hk) q_80 mw_R_turned rfl ⟨rfl, rfl, Nat.le_of_ble_eq_true rfl, Nat.le_of_ble_eq_true rfl⟩ rfl rfl rfl hl.1 rfl (Nat.le_of_ble_eq_true rfl) d_R_accumulator_127 (fun H locs x35 M36 hk hw => ?_)
        refine r_st_8 (k := 7) hC hw (vin_lit rfl) (by decide) d_R_accumulator_130 (fun H locs M37 e_M37 hw => ?_)
        have hk := hk M37 e_M37
        refine lv_aload_n hx hb d_R_accumulator_131 rfl (lv_at hl 0 rfl) ?_
        refine lv_sipush (v := 128) hx hb d_R_accumulator_132 (by decide) ?_
        refine lv_iconst (v := 0) hx hb d_R_accumulator_135 (by decide) ?_
        refine cl_Vv (j := 0) (As := [.int (128 : Int32), .int (0 : Int32)]) hC hw (ct_R_flag _ _ _ _ hk) q_79 mw_R_flag rfl ⟨rfl, rfl, Nat.le_of_ble_eq_true rfl, Nat.le_of_ble_eq_true rfl⟩ rfl rfl rfl hl.1 rfl (Nat.le_of_ble_eq_true rfl) d_R_accumulator_136 (fun H locs M38 hk hw => ?_)
        exact hj1 _ _ _ _ hk hw (lv_sub hl [0, 1] rfl)
set_option maxHeartbeats 4000000 in
set_option maxRecDepth 100000 in
theorem ct_R_first {l : Launch} {D : va_G} {cA : ClassId} {ad tb : Nat → Nat} (M0 : Mem) (a1 : Int32) (a2 : Int32) (Q : Mem → Prop) (hk : wp_R_first M0 a1 a2 Q) : Ct l y_R_first ws_R_first rm_R_first D (ceR ad cA) cA tb [.ref (ad 0), .int a1, .int a2] M0 (QV Q) := by
  refine Ct.of (own := "TileConsoleModel") (cc := b_R_first) (maxL := 8) (ret := none) ceR_fix (by decide) rfl rfl (Nat.le_of_ble_eq_true rfl) ?_
  intro p e s m args below meth c A QQ ls H locs hQQ hC hr hlk hw hl
  have hx := hC.1.1
  have hb := hC.1.2.1
  unfold wp_R_first at hk
  have hl : lv_has ls 8 [(0, .ref (ad 0)), (1, .int a1), (2, .int a2)] := hl
  refine lv_iload_n hx hb d_R_first_0 rfl (lv_at hl 1 rfl) ?_
  refine lv_iconst (v := 1) hx hb d_R_first_1 (by decide) ?_
  refine lv_iand hx hb d_R_first_2 ?_
  refine lv_topi (fun x1 e_x1 => ?_)
  have hk := hk x1 e_x1
  refine lv_istore_n (lv' := [(3, .int x1), (0, .ref (ad 0)), (1, .int a1), (2, .int a2)]) hx hb d_R_first_3 rfl hl (by decide) rfl (fun ls hl => ?_)
  refine lv_iload_n hx hb d_R_first_4 rfl (lv_at hl 2 rfl) ?_
  refine lv_iconst (v := 1) hx hb d_R_first_5 (by decide) ?_
  refine lv_ishr hx hb d_R_first_6 ?_
  refine lv_topi (fun x2 e_x2 => ?_)
  have hk := hk x2 e_x2
  refine lv_istore (lv' := [(4, .int x2), (3, .int x1), (0, .ref (ad 0)), (1, .int a1), (2, .int a2)]) hx hb d_R_first_7 hl (by decide) rfl (fun ls hl => ?_)
  refine lv_iload_n hx hb d_R_first_9 rfl (lv_at hl 4 rfl) ?_
  have hj1 : ∀ (H : Heap) (locs : List Loc) (ls : Array Slot) (M214 : Mem), wp_R_first_j1 M214 Q → Wd D (ceR ad cA) A s H locs M214 → lv_has ls 8 [(0, .ref (ad 0)), (1, .int a1), (2, .int a2), (3, .int x1), (4, .int x2)] → W p l e rm_R_first s m args below meth c H locs 0 0 QQ (F0 m 517 ls []) := by
    intro H locs ls M214 hk hw hl
    unfold wp_R_first_j1 at hk
    exact rt_v hQQ hx hb hr hlk hw ⟨rfl, hk⟩ d_R_first_517
  by_cases hs1 : (a2 = (0 : Int32))
  · have hk := hk.1 hs1
    refine lv_tableIn (x := a2) (off := 42) (tgt := 52) hx hb d_R_first_10 (by rw [hs1]; decide) (by rw [hs1]; decide) (by rw [hs1]; decide) (by decide) ?_
    refine lv_iload_n hx hb d_R_first_52 rfl (lv_at hl 3 rfl) ?_
    refine lv_iconst (v := 1) hx hb d_R_first_53 (by decide) ?_
    refine lv_icmp_ne (tgt := 91) hx hb d_R_first_54 (by decide) (fun hc => ?_) (fun hc => ?_)
    · have hk := hk.1 hc
      refine lv_iload_n hx hb d_R_first_91 rfl (lv_at hl 3 rfl) ?_
      refine lv_iconst (v := 2) hx hb d_R_first_92 (by decide) ?_
      refine lv_icmp_ne (tgt := 109) hx hb d_R_first_93 (by decide) (fun hc => ?_) (fun hc => ?_)
      · have hk := hk.1 hc
        refine lv_iload_n hx hb d_R_first_109 rfl (lv_at hl 3 rfl) ?_
        refine lv_iconst (v := 2) hx hb d_R_first_110 (by decide) ?_
        refine lv_icmp_le (tgt := 517) hx hb d_R_first_111 (by decide) (fun hc => ?_) (fun hc => ?_)
        · have hk := hk.1 hc
          exact hj1 _ _ _ _ hk hw (lv_sub hl [2, 3, 4, 1, 0] rfl)
        · have hk := hk.2 hc
          refine lv_aload_n hx hb d_R_first_114 rfl (lv_at hl 2 rfl) ?_
          refine cl_Vi (j := 0) (As := []) hC hw (ct_R_next _  _ hk) q_72 mw_R_next rfl ⟨rfl, rfl, Nat.le_of_ble_eq_true rfl, Nat.le_of_ble_eq_true rfl⟩ rfl rfl rfl hl.1 rfl (Nat.le_of_ble_eq_true rfl) d_R_first_115 (fun H locs x215 M216 hk hw => ?_)
          refine cl_Sip (As := [.int x215]) hC hw (ct_R_signed _ _ _ hk) q_81 mw_R_signed rfl ⟨rfl, rfl, Nat.le_of_ble_eq_true rfl, Nat.le_of_ble_eq_true rfl⟩ rfl hl.1 rfl (Nat.le_of_ble_eq_true rfl) d_R_first_118 (fun H locs x217 hk hw => ?_)
          refine lv_istore (lv' := [(5, .int x217), (4, .int x2), (3, .int x1), (0, .ref (ad 0)), (1, .int a1), (2, .int a2)]) hx hb d_R_first_121 hl (by decide) rfl (fun ls hl => ?_)
          refine lv_aload_n hx hb d_R_first_123 rfl (lv_at hl 3 rfl) ?_
          refine lv_iload_n hx hb d_R_first_124 rfl (lv_at hl 4 rfl) ?_
          refine lv_iconst (v := 3) hx hb d_R_first_125 (by decide) ?_
          have hj2 : ∀ (H : Heap) (locs : List Loc) (ls : Array Slot) (x221 : Int32), wp_R_first_j2 M216 x217 x221 Q → Wd D (ceR ad cA) A s H locs M216 → lv_has ls 8 [(0, .ref (ad 0)), (1, .int a1), (2, .int a2), (3, .int x1), (4, .int x2), (5, .int x217)] → W p l e rm_R_first s m args below meth c H locs 0 0 QQ (F0 m 144 ls [.int x221, .ref (ad 0)]) := by
            intro H locs ls x221 hk hw hl
            unfold wp_R_first_j2 at hk
            refine lv_aload_n hx hb d_R_first_144 rfl (lv_at hl 0 rfl) ?_
            refine g_R_pc hC hw q_16 d_R_first_145 ?_
            refine lv_iload hx hb d_R_first_148 (lv_at hl 5 rfl) ?_
            refine lv_iadd hx hb d_R_first_150 ?_
            refine cl_Vv (j := 0) (As := [.int x221, .int ((M216 0 19) + x217)]) hC hw (ct_R_jumps _ _ _ _ hk) q_83 mw_R_jumps rfl ⟨rfl, rfl, Nat.le_of_ble_eq_true rfl, Nat.le_of_ble_eq_true rfl⟩ rfl rfl rfl hl.1 rfl (Nat.le_of_ble_eq_true rfl) d_R_first_151 (fun H locs M222 hk hw => ?_)
            refine lv_goto (tgt := 517) hx hb d_R_first_154 (by decide) ?_
            exact hj1 _ _ _ _ hk hw (lv_sub hl [0, 1, 2, 3, 4] rfl)
          have hj3 : ∀ (H : Heap) (locs : List Loc) (ls : Array Slot), wp_R_first_j3 M216 x217 Q → Wd D (ceR ad cA) A s H locs M216 → lv_has ls 8 [(0, .ref (ad 0)), (1, .int a1), (2, .int a2), (3, .int x1), (4, .int x2), (5, .int x217)] → W p l e rm_R_first s m args below meth c H locs 0 0 QQ (F0 m 139 ls [.ref (ad 0)]) := by
            intro H locs ls  hk hw hl
            unfold wp_R_first_j3 at hk
            refine lv_iconst (v := 1) hx hb d_R_first_139 (by decide) ?_
            refine lv_goto (tgt := 144) hx hb d_R_first_140 (by decide) ?_
            exact hj2 _ _ _ _ hk hw (lv_sub hl [0, 1, 2, 3, 4, 5] rfl)
          refine lv_icmp_eq (tgt := 139) hx hb d_R_first_126 (by decide) (fun hc => ?_) (fun hc => ?_)
          · have hk := hk.1 hc
            exact hj3 _ _ _  hk hw (lv_sub hl [3, 4, 5, 2, 1, 0] rfl)
          · have hk := hk.2 hc
            refine lv_aload_n hx hb d_R_first_129 rfl (lv_at hl 3 rfl) ?_
            refine lv_iload_n hx hb d_R_first_130 rfl (lv_at hl 4 rfl) ?_
            refine lv_iconst (v := 4) hx hb d_R_first_131 (by decide) ?_
            refine lv_isub hx hb d_R_first_132 ?_
            refine cl_Vip (j := 0) (As := [.int (a1 - (4 : Int32))]) hC hw (ct_R_holds _ _ _ hk) q_82 mw_R_holds rfl ⟨rfl, rfl, Nat.le_of_ble_eq_true rfl, Nat.le_of_ble_eq_true rfl⟩ rfl rfl rfl hl.1 rfl (Nat.le_of_ble_eq_true rfl) d_R_first_133 (fun H locs x223 hk hw => ?_)
            refine lv_if_eq (tgt := 143) hx hb d_R_first_136 (by decide) (fun hc => ?_) (fun hc => ?_)
            · have hk := hk.1 hc
              refine lv_iconst (v := 0) hx hb d_R_first_143 (by decide) ?_
              exact hj2 _ _ _ _ hk hw (lv_sub hl [3, 4, 5, 2, 1, 0] rfl)
            · have hk := hk.2 hc
              exact hj3 _ _ _  hk hw (lv_sub hl [3, 4, 5, 2, 1, 0] rfl)
      · have hk := hk.2 hc
        refine lv_aload_n hx hb d_R_first_96 rfl (lv_at hl 2 rfl) ?_
        refine cl_Vi (j := 0) (As := []) hC hw (ct_R_next _  _ hk) q_72 mw_R_next rfl ⟨rfl, rfl, Nat.le_of_ble_eq_true rfl, Nat.le_of_ble_eq_true rfl⟩ rfl rfl rfl hl.1 rfl (Nat.le_of_ble_eq_true rfl) d_R_first_97 (fun H locs x224 M225 hk hw => ?_)
        refine lv_pop hx hb d_R_first_100 rfl ?_
        refine lv_aload_n hx hb d_R_first_101 rfl (lv_at hl 2 rfl) ?_
        refine lv_iconst (v := 0) hx hb d_R_first_102 (by decide) ?_
        refine p_R_s hC hw q_22 d_R_first_103 (fun H locs M226 e_M226 hw => ?_)
        have hk := hk M226 e_M226
        refine lv_goto (tgt := 517) hx hb d_R_first_106 (by decide) ?_
        exact hj1 _ _ _ _ hk hw (lv_sub hl [2, 3, 4, 1, 0] rfl)
    · have hk := hk.2 hc
      refine lv_aload_n hx hb d_R_first_57 rfl (lv_at hl 2 rfl) ?_
      refine cl_Vi (j := 0) (As := []) hC hw (ct_R_nextWord _  _ hk) q_84 mw_R_nextWord rfl ⟨rfl, rfl, Nat.le_of_ble_eq_true rfl, Nat.le_of_ble_eq_true rfl⟩ rfl rfl rfl hl.1 rfl (Nat.le_of_ble_eq_true rfl) d_R_first_58 (fun H locs x227 M228 hk hw => ?_)
      refine lv_istore (lv' := [(5, .int x227), (4, .int x2), (3, .int x1), (0, .ref (ad 0)), (1, .int a1), (2, .int a2)]) hx hb d_R_first_61 hl (by decide) rfl (fun ls hl => ?_)
      refine lv_aload_n hx hb d_R_first_63 rfl (lv_at hl 3 rfl) ?_
      refine lv_iload hx hb d_R_first_64 (lv_at hl 0 rfl) ?_
      refine lv_aload_n hx hb d_R_first_66 rfl (lv_at hl 3 rfl) ?_
      refine g_R_sp hC hw q_15 d_R_first_67 ?_
      refine cl_Vv (j := 0) (As := [.int x227, .int (M228 0 18)]) hC hw (ct_R_writes _ _ _ _ hk) q_74 mw_R_writes rfl ⟨rfl, rfl, Nat.le_of_ble_eq_true rfl, Nat.le_of_ble_eq_true rfl⟩ rfl rfl rfl hl.1 rfl (Nat.le_of_ble_eq_true rfl) d_R_first_70 (fun H locs M229 hk hw => ?_)
      refine lv_aload_n hx hb d_R_first_73 rfl (lv_at hl 3 rfl) ?_
      refine lv_iload hx hb d_R_first_74 (lv_at hl 0 rfl) ?_
      refine lv_iconst (v := 1) hx hb d_R_first_76 (by decide) ?_
      refine lv_iadd hx hb d_R_first_77 ?_
      refine lv_aload_n hx hb d_R_first_78 rfl (lv_at hl 3 rfl) ?_
      refine g_R_sp hC hw q_15 d_R_first_79 ?_
      refine lv_bipush (v := 8) hx hb d_R_first_82 (by decide) ?_
      refine lv_ishr hx hb d_R_first_84 ?_
      refine cl_Vv (j := 0) (As := [.int (x227 + (1 : Int32)), .int ((M229 0 18) >>> ((8 : Int32) &&& (31 : Int32)))]) hC hw (ct_R_writes _ _ _ _ hk) q_74 mw_R_writes rfl ⟨rfl, rfl, Nat.le_of_ble_eq_true rfl, Nat.le_of_ble_eq_true rfl⟩ rfl rfl rfl hl.1 rfl (Nat.le_of_ble_eq_true rfl) d_R_first_85 (fun H locs M230 hk hw => ?_)
      refine lv_goto (tgt := 517) hx hb d_R_first_88 (by decide) ?_
      exact hj1 _ _ _ _ hk hw (lv_sub hl [3, 4, 5, 2, 1] rfl)
  · have hk := hk.2 hs1
    by_cases hs2 : (a2 = (1 : Int32))
    · have hk := hk.1 hs2
      refine lv_tableIn (x := a2) (off := 147) (tgt := 157) hx hb d_R_first_10 (by rw [hs2]; decide) (by rw [hs2]; decide) (by rw [hs2]; decide) (by decide) ?_
      refine lv_iload_n hx hb d_R_first_157 rfl (lv_at hl 1 rfl) ?_
      refine lv_if_ne (tgt := 174) hx hb d_R_first_158 (by decide) (fun hc => ?_) (fun hc => ?_)
      · have hk := hk.1 hc
        refine lv_aload_n hx hb d_R_first_174 rfl (lv_at hl 2 rfl) ?_
        refine lv_iconst (v := 2) hx hb d_R_first_175 (by decide) ?_
        refine cl_Vip (j := 0) (As := [.int (2 : Int32)]) hC hw (ct_R_pair _ _ _ hk) q_73 mw_R_pair rfl ⟨rfl, rfl, Nat.le_of_ble_eq_true rfl, Nat.le_of_ble_eq_true rfl⟩ rfl rfl rfl hl.1 rfl (Nat.le_of_ble_eq_true rfl) d_R_first_176 (fun H locs x231 hk hw => ?_)
        refine lv_istore (lv' := [(5, .int x231), (4, .int x2), (3, .int x1), (0, .ref (ad 0)), (1, .int a1), (2, .int a2)]) hx hb d_R_first_179 hl (by decide) rfl (fun ls hl => ?_)
        refine lv_aload_n hx hb d_R_first_181 rfl (lv_at hl 3 rfl) ?_
        refine lv_iload hx hb d_R_first_182 (lv_at hl 1 rfl) ?_
        refine cl_Vip (j := 0) (As := [.int x2]) hC hw (ct_R_pair _ _ _ hk) q_73 mw_R_pair rfl ⟨rfl, rfl, Nat.le_of_ble_eq_true rfl, Nat.le_of_ble_eq_true rfl⟩ rfl rfl rfl hl.1 rfl (Nat.le_of_ble_eq_true rfl) d_R_first_184 (fun H locs x232 hk hw => ?_)
        refine lv_istore (lv' := [(6, .int x232), (5, .int x231), (4, .int x2), (3, .int x1), (0, .ref (ad 0)), (1, .int a1), (2, .int a2)]) hx hb d_R_first_187 hl (by decide) rfl (fun ls hl => ?_)
        refine lv_aload_n hx hb d_R_first_189 rfl (lv_at hl 4 rfl) ?_
        refine lv_bipush (v := 64) hx hb d_R_first_190 (by decide) ?_
        refine lv_iconst (v := 0) hx hb d_R_first_192 (by decide) ?_
        refine cl_Vv (j := 0) (As := [.int (64 : Int32), .int (0 : Int32)]) hC hw (ct_R_flag _ _ _ _ hk) q_79 mw_R_flag rfl ⟨rfl, rfl, Nat.le_of_ble_eq_true rfl, Nat.le_of_ble_eq_true rfl⟩ rfl rfl rfl hl.1 rfl (Nat.le_of_ble_eq_true rfl) d_R_first_193 (fun H locs M233 hk hw => ?_)
        refine lv_aload_n hx hb d_R_first_196 rfl (lv_at hl 4 rfl) ?_
        refine lv_bipush (v := 32) hx hb d_R_first_197 (by decide) ?_
        refine lv_iload hx hb d_R_first_199 (lv_at hl 1 rfl) ?_
        refine lv_sipush (v := 4095) hx hb d_R_first_201 (by decide) ?_
        refine lv_iand hx hb d_R_first_204 ?_
        refine lv_iload hx hb d_R_first_205 (lv_at hl 0 rfl) ?_
        refine lv_sipush (v := 4095) hx hb d_R_first_207 (by decide) ?_
        refine lv_iand hx hb d_R_first_210 ?_
        refine lv_iadd hx hb d_R_first_211 ?_
        refine lv_sipush (v := 4095) hx hb d_R_first_212 (by decide) ?_
        have hj4 : ∀ (H : Heap) (locs : List Loc) (ls : Array Slot) (x244 : Int32), wp_R_first_j4 x231 x232 M233 x244 Q → Wd D (ceR ad cA) A s H locs M233 → lv_has ls 8 [(0, .ref (ad 0)), (1, .int a1), (2, .int a2), (3, .int x1), (4, .int x2), (5, .int x231), (6, .int x232)] → W p l e rm_R_first s m args below meth c H locs 0 0 QQ (F0 m 223 ls [.int x244, .int (32 : Int32), .ref (ad 0)]) := by
          intro H locs ls x244 hk hw hl
          unfold wp_R_first_j4 at hk
          refine cl_Vv (j := 0) (As := [.int (32 : Int32), .int x244]) hC hw (ct_R_flag _ _ _ _ hk) q_79 mw_R_flag rfl ⟨rfl, rfl, Nat.le_of_ble_eq_true rfl, Nat.le_of_ble_eq_true rfl⟩ rfl rfl rfl hl.1 rfl (Nat.le_of_ble_eq_true rfl) d_R_first_223 (fun H locs M245 hk hw => ?_)
          refine lv_aload_n hx hb d_R_first_226 rfl (lv_at hl 0 rfl) ?_
          refine lv_bipush (v := 16) hx hb d_R_first_227 (by decide) ?_
          refine lv_iload hx hb d_R_first_229 (lv_at hl 5 rfl) ?_
          refine lv_iload hx hb d_R_first_231 (lv_at hl 6 rfl) ?_
          refine lv_iadd hx hb d_R_first_233 ?_
          refine lv_ldc (v := (65535 : Int32)) hx hb hC.1.2.2.2.1 (hC.1.2.2.2.2 _ q_59) d_R_first_234 ?_
          have hj5 : ∀ (H : Heap) (locs : List Loc) (ls : Array Slot) (x250 : Int32), wp_R_first_j5 x231 x232 M245 x250 Q → Wd D (ceR ad cA) A s H locs M245 → lv_has ls 8 [(0, .ref (ad 0)), (1, .int a1), (2, .int a2), (3, .int x1), (4, .int x2), (5, .int x231), (6, .int x232)] → W p l e rm_R_first s m args below meth c H locs 0 0 QQ (F0 m 244 ls [.int x250, .int (16 : Int32), .ref (ad 0)]) := by
            intro H locs ls x250 hk hw hl
            unfold wp_R_first_j5 at hk
            refine cl_Vv (j := 0) (As := [.int (16 : Int32), .int x250]) hC hw (ct_R_flag _ _ _ _ hk) q_79 mw_R_flag rfl ⟨rfl, rfl, Nat.le_of_ble_eq_true rfl, Nat.le_of_ble_eq_true rfl⟩ rfl rfl rfl hl.1 rfl (Nat.le_of_ble_eq_true rfl) d_R_first_244 (fun H locs M251 hk hw => ?_)
            refine lv_aload_n hx hb d_R_first_247 rfl (lv_at hl 0 rfl) ?_
            refine lv_iconst (v := 2) hx hb d_R_first_248 (by decide) ?_
            refine lv_iload hx hb d_R_first_249 (lv_at hl 5 rfl) ?_
            refine lv_iload hx hb d_R_first_251 (lv_at hl 6 rfl) ?_
            refine lv_iadd hx hb d_R_first_253 ?_
            refine cl_Vv (j := 0) (As := [.int (2 : Int32), .int (x231 + x232)]) hC hw (ct_R_setPair _ _ _ _ hk) q_85 mw_R_setPair rfl ⟨rfl, rfl, Nat.le_of_ble_eq_true rfl, Nat.le_of_ble_eq_true rfl⟩ rfl rfl rfl hl.1 rfl (Nat.le_of_ble_eq_true rfl) d_R_first_254 (fun H locs M252 hk hw => ?_)
            refine lv_aload_n hx hb d_R_first_257 rfl (lv_at hl 0 rfl) ?_
            refine lv_dup hx hb d_R_first_258 rfl ?_
            refine g_R_cost hC hw q_69 d_R_first_259 ?_
            refine lv_iconst (v := 1) hx hb d_R_first_262 (by decide) ?_
            refine lv_iadd hx hb d_R_first_263 ?_
            refine p_R_cost hC hw q_69 d_R_first_264 (fun H locs M253 e_M253 hw => ?_)
            have hk := hk M253 e_M253
            refine lv_goto (tgt := 517) hx hb d_R_first_267 (by decide) ?_
            exact hj1 _ _ _ _ hk hw (lv_sub hl [0, 1, 2, 3, 4] rfl)
          refine lv_icmp_le (tgt := 243) hx hb d_R_first_236 (by decide) (fun hc => ?_) (fun hc => ?_)
          · have hk := hk.1 hc
            refine lv_iconst (v := 0) hx hb d_R_first_243 (by decide) ?_
            exact hj5 _ _ _ _ hk hw (lv_sub hl [0, 1, 2, 3, 4, 5, 6] rfl)
          · have hk := hk.2 hc
            refine lv_iconst (v := 1) hx hb d_R_first_239 (by decide) ?_
            refine lv_goto (tgt := 244) hx hb d_R_first_240 (by decide) ?_
            exact hj5 _ _ _ _ hk hw (lv_sub hl [0, 1, 2, 3, 4, 5, 6] rfl)
        refine lv_icmp_le (tgt := 222) hx hb d_R_first_215 (by decide) (fun hc => ?_) (fun hc => ?_)
        · have hk := hk.1 hc
          refine lv_iconst (v := 0) hx hb d_R_first_222 (by decide) ?_
          exact hj4 _ _ _ _ hk hw (lv_sub hl [4, 5, 6, 3, 2, 1, 0] rfl)
        · have hk := hk.2 hc
          refine lv_iconst (v := 1) hx hb d_R_first_218 (by decide) ?_
          refine lv_goto (tgt := 223) hx hb d_R_first_219 (by decide) ?_
          exact hj4 _ _ _ _ hk hw (lv_sub hl [4, 5, 6, 3, 2, 1, 0] rfl)
      · have hk := hk.2 hc
        refine lv_aload_n hx hb d_R_first_161 rfl (lv_at hl 2 rfl) ?_
        refine lv_iload hx hb d_R_first_162 (lv_at hl 0 rfl) ?_
        refine lv_aload_n hx hb d_R_first_164 rfl (lv_at hl 2 rfl) ?_
        refine cl_Vi (j := 0) (As := []) hC hw (ct_R_nextWord _  _ hk) q_84 mw_R_nextWord rfl ⟨rfl, rfl, Nat.le_of_ble_eq_true rfl, Nat.le_of_ble_eq_true rfl⟩ rfl rfl rfl hl.1 rfl (Nat.le_of_ble_eq_true rfl) d_R_first_165 (fun H locs x254 M255 hk hw => ?_)
        refine cl_Vv (j := 0) (As := [.int x2, .int x254]) hC hw (ct_R_setPair _ _ _ _ hk) q_85 mw_R_setPair rfl ⟨rfl, rfl, Nat.le_of_ble_eq_true rfl, Nat.le_of_ble_eq_true rfl⟩ rfl rfl rfl hl.1 rfl (Nat.le_of_ble_eq_true rfl) d_R_first_168 (fun H locs M256 hk hw => ?_)
        refine lv_goto (tgt := 517) hx hb d_R_first_171 (by decide) ?_
        exact hj1 _ _ _ _ hk hw (lv_sub hl [2, 3, 4, 1, 0] rfl)
    · have hk := hk.2 hs2
      by_cases hs3 : (a2 = (2 : Int32))
      · have hk := hk.1 hs3
        refine lv_tableIn (x := a2) (off := 260) (tgt := 270) hx hb d_R_first_10 (by rw [hs3]; decide) (by rw [hs3]; decide) (by rw [hs3]; decide) (by decide) ?_
        refine lv_iload hx hb d_R_first_270 (lv_at hl 0 rfl) ?_
        refine lv_iconst (v := 2) hx hb d_R_first_272 (by decide) ?_
        have hj6 : ∀ (H : Heap) (locs : List Loc) (ls : Array Slot) (x278 : Int32), wp_R_first_j6 M0 x1 x2 x278 Q → Wd D (ceR ad cA) A s H locs M0 → lv_has ls 8 [(0, .ref (ad 0)), (1, .int a1), (2, .int a2), (3, .int x1), (4, .int x2)] → W p l e rm_R_first s m args below meth c H locs 0 0 QQ (F0 m 290 ls [.int x278]) := by
          intro H locs ls x278 hk hw hl
          unfold wp_R_first_j6 at hk
          refine lv_istore (lv' := [(5, .int x278), (0, .ref (ad 0)), (1, .int a1), (2, .int a2), (3, .int x1), (4, .int x2)]) hx hb d_R_first_290 hl (by decide) rfl (fun ls hl => ?_)
          refine lv_iload_n hx hb d_R_first_292 rfl (lv_at hl 4 rfl) ?_
          have hj7 : ∀ (H : Heap) (locs : List Loc) (ls : Array Slot) (M288 : Mem), wp_R_first_j7 x2 x278 M288 Q → Wd D (ceR ad cA) A s H locs M288 → lv_has ls 8 [(0, .ref (ad 0)), (1, .int a1), (2, .int a2), (3, .int x1), (4, .int x2), (5, .int x278)] → W p l e rm_R_first s m args below meth c H locs 0 0 QQ (F0 m 325 ls []) := by
            intro H locs ls M288 hk hw hl
            unfold wp_R_first_j7 at hk
            refine lv_iload hx hb d_R_first_325 (lv_at hl 4 rfl) ?_
            refine lv_iconst (v := 1) hx hb d_R_first_327 (by decide) ?_
            refine lv_icmp_le (tgt := 517) hx hb d_R_first_328 (by decide) (fun hc => ?_) (fun hc => ?_)
            · have hk := hk.1 hc
              exact hj1 _ _ _ _ hk hw (lv_sub hl [0, 1, 2, 3, 4] rfl)
            · have hk := hk.2 hc
              refine lv_aload_n hx hb d_R_first_331 rfl (lv_at hl 0 rfl) ?_
              refine lv_iconst (v := 2) hx hb d_R_first_332 (by decide) ?_
              refine lv_iload hx hb d_R_first_333 (lv_at hl 4 rfl) ?_
              refine lv_iconst (v := 2) hx hb d_R_first_335 (by decide) ?_
              have hj8 : ∀ (H : Heap) (locs : List Loc) (ls : Array Slot) (x291 : Int32), wp_R_first_j8 M288 x291 Q → Wd D (ceR ad cA) A s H locs M288 → lv_has ls 8 [(0, .ref (ad 0)), (1, .int a1), (2, .int a2), (3, .int x1), (4, .int x2), (5, .int x278)] → W p l e rm_R_first s m args below meth c H locs 0 0 QQ (F0 m 350 ls [.int x291, .int (2 : Int32), .ref (ad 0)]) := by
                intro H locs ls x291 hk hw hl
                unfold wp_R_first_j8 at hk
                refine cl_Vv (j := 0) (As := [.int (2 : Int32), .int x291]) hC hw (ct_R_setPair _ _ _ _ hk) q_85 mw_R_setPair rfl ⟨rfl, rfl, Nat.le_of_ble_eq_true rfl, Nat.le_of_ble_eq_true rfl⟩ rfl rfl rfl hl.1 rfl (Nat.le_of_ble_eq_true rfl) d_R_first_350 (fun H locs M292 hk hw => ?_)
                refine lv_goto (tgt := 517) hx hb d_R_first_353 (by decide) ?_
                exact hj1 _ _ _ _ hk hw (lv_sub hl [0, 1, 2, 3, 4] rfl)
              refine lv_icmp_ne (tgt := 346) hx hb d_R_first_336 (by decide) (fun hc => ?_) (fun hc => ?_)
              · have hk := hk.1 hc
                refine lv_iload hx hb d_R_first_346 (lv_at hl 5 rfl) ?_
                refine lv_iconst (v := 1) hx hb d_R_first_348 (by decide) ?_
                refine lv_isub hx hb d_R_first_349 ?_
                exact hj8 _ _ _ _ hk hw (lv_sub hl [0, 1, 2, 3, 4, 5] rfl)
              · have hk := hk.2 hc
                refine lv_iload hx hb d_R_first_339 (lv_at hl 5 rfl) ?_
                refine lv_iconst (v := 1) hx hb d_R_first_341 (by decide) ?_
                refine lv_iadd hx hb d_R_first_342 ?_
                refine lv_goto (tgt := 350) hx hb d_R_first_343 (by decide) ?_
                exact hj8 _ _ _ _ hk hw (lv_sub hl [0, 1, 2, 3, 4, 5] rfl)
          refine lv_if_ne (tgt := 312) hx hb d_R_first_293 (by decide) (fun hc => ?_) (fun hc => ?_)
          · have hk := hk.1 hc
            refine lv_aload_n hx hb d_R_first_312 rfl (lv_at hl 1 rfl) ?_
            refine g_R_r hC hw q_13 d_R_first_313 ?_
            refine lv_bipush (v := 7) hx hb d_R_first_316 (by decide) ?_
            refine lv_aload_n hx hb d_R_first_318 rfl (lv_at hl 1 rfl) ?_
            refine lv_iload hx hb d_R_first_319 (lv_at hl 0 rfl) ?_
            refine cl_Vi (j := 0) (As := [.int x278]) hC hw (ct_R_reads _ _ _ hk) q_71 mw_R_reads rfl ⟨rfl, rfl, Nat.le_of_ble_eq_true rfl, Nat.le_of_ble_eq_true rfl⟩ rfl rfl rfl hl.1 rfl (Nat.le_of_ble_eq_true rfl) d_R_first_321 (fun H locs x293 M294 hk hw => ?_)
            refine r_st_8 (k := 7) hC hw (vin_lit rfl) (by decide) d_R_first_324 (fun H locs M295 e_M295 hw => ?_)
            have hk := hk M295 e_M295
            exact hj7 _ _ _ _ hk hw (lv_sub hl [1, 2, 3, 4, 5, 0] rfl)
          · have hk := hk.2 hc
            refine lv_aload_n hx hb d_R_first_296 rfl (lv_at hl 1 rfl) ?_
            refine lv_iload hx hb d_R_first_297 (lv_at hl 0 rfl) ?_
            refine lv_aload_n hx hb d_R_first_299 rfl (lv_at hl 1 rfl) ?_
            refine g_R_r hC hw q_13 d_R_first_300 ?_
            refine lv_bipush (v := 7) hx hb d_R_first_303 (by decide) ?_
            refine r_ld_8 (k := 7) hC hw (vin_lit rfl) (by decide) d_R_first_305 ?_
            refine cl_Vv (j := 0) (As := [.int x278, .int (M0 8 7)]) hC hw (ct_R_writes _ _ _ _ hk) q_74 mw_R_writes rfl ⟨rfl, rfl, Nat.le_of_ble_eq_true rfl, Nat.le_of_ble_eq_true rfl⟩ rfl rfl rfl hl.1 rfl (Nat.le_of_ble_eq_true rfl) d_R_first_306 (fun H locs M296 hk hw => ?_)
            refine lv_goto (tgt := 325) hx hb d_R_first_309 (by decide) ?_
            exact hj7 _ _ _ _ hk hw (lv_sub hl [1, 2, 3, 4, 5, 0] rfl)
        refine lv_icmp_ge (tgt := 285) hx hb d_R_first_273 (by decide) (fun hc => ?_) (fun hc => ?_)
        · have hk := hk.1 hc
          refine lv_aload_n hx hb d_R_first_285 rfl (lv_at hl 2 rfl) ?_
          refine lv_iconst (v := 2) hx hb d_R_first_286 (by decide) ?_
          refine cl_Vip (j := 0) (As := [.int (2 : Int32)]) hC hw (ct_R_pair _ _ _ hk) q_73 mw_R_pair rfl ⟨rfl, rfl, Nat.le_of_ble_eq_true rfl, Nat.le_of_ble_eq_true rfl⟩ rfl rfl rfl hl.1 rfl (Nat.le_of_ble_eq_true rfl) d_R_first_287 (fun H locs x297 hk hw => ?_)
          exact hj6 _ _ _ _ hk hw (lv_sub hl [2, 3, 4, 1, 0] rfl)
        · have hk := hk.2 hc
          refine lv_aload_n hx hb d_R_first_276 rfl (lv_at hl 2 rfl) ?_
          refine lv_iload hx hb d_R_first_277 (lv_at hl 0 rfl) ?_
          refine cl_Vip (j := 0) (As := [.int x2]) hC hw (ct_R_pair _ _ _ hk) q_73 mw_R_pair rfl ⟨rfl, rfl, Nat.le_of_ble_eq_true rfl, Nat.le_of_ble_eq_true rfl⟩ rfl rfl rfl hl.1 rfl (Nat.le_of_ble_eq_true rfl) d_R_first_279 (fun H locs x298 hk hw => ?_)
          refine lv_goto (tgt := 290) hx hb d_R_first_282 (by decide) ?_
          exact hj6 _ _ _ _ hk hw (lv_sub hl [2, 3, 4, 1, 0] rfl)
      · have hk := hk.2 hs3
        by_cases hs4 : (a2 = (3 : Int32))
        · have hk := hk.1 hs4
          refine lv_tableIn (x := a2) (off := 346) (tgt := 356) hx hb d_R_first_10 (by rw [hs4]; decide) (by rw [hs4]; decide) (by rw [hs4]; decide) (by decide) ?_
          refine lv_aload_n hx hb d_R_first_356 rfl (lv_at hl 2 rfl) ?_
          refine lv_iload hx hb d_R_first_357 (lv_at hl 0 rfl) ?_
          refine lv_iload_n hx hb d_R_first_359 rfl (lv_at hl 1 rfl) ?_
          have hj9 : ∀ (H : Heap) (locs : List Loc) (ls : Array Slot) (x304 : Int32), wp_R_first_j9 M0 x2 x304 Q → Wd D (ceR ad cA) A s H locs M0 → lv_has ls 8 [(0, .ref (ad 0)), (1, .int a1), (2, .int a2), (3, .int x1), (4, .int x2)] → W p l e rm_R_first s m args below meth c H locs 0 0 QQ (F0 m 382 ls [.int x304, .int x2, .ref (ad 0)]) := by
            intro H locs ls x304 hk hw hl
            unfold wp_R_first_j9 at hk
            refine cl_Vv (j := 0) (As := [.int x2, .int x304]) hC hw (ct_R_setPair _ _ _ _ hk) q_85 mw_R_setPair rfl ⟨rfl, rfl, Nat.le_of_ble_eq_true rfl, Nat.le_of_ble_eq_true rfl⟩ rfl rfl rfl hl.1 rfl (Nat.le_of_ble_eq_true rfl) d_R_first_382 (fun H locs M305 hk hw => ?_)
            refine lv_aload_n hx hb d_R_first_385 rfl (lv_at hl 0 rfl) ?_
            refine lv_dup hx hb d_R_first_386 rfl ?_
            refine g_R_cost hC hw q_69 d_R_first_387 ?_
            refine lv_iconst (v := 1) hx hb d_R_first_390 (by decide) ?_
            refine lv_iadd hx hb d_R_first_391 ?_
            refine p_R_cost hC hw q_69 d_R_first_392 (fun H locs M306 e_M306 hw => ?_)
            have hk := hk M306 e_M306
            refine lv_goto (tgt := 517) hx hb d_R_first_395 (by decide) ?_
            exact hj1 _ _ _ _ hk hw (lv_sub hl [0, 1, 2, 3, 4] rfl)
          refine lv_if_ne (tgt := 374) hx hb d_R_first_360 (by decide) (fun hc => ?_) (fun hc => ?_)
          · have hk := hk.1 hc
            refine lv_aload_n hx hb d_R_first_374 rfl (lv_at hl 2 rfl) ?_
            refine lv_iload hx hb d_R_first_375 (lv_at hl 0 rfl) ?_
            refine cl_Vip (j := 0) (As := [.int x2]) hC hw (ct_R_pair _ _ _ hk) q_73 mw_R_pair rfl ⟨rfl, rfl, Nat.le_of_ble_eq_true rfl, Nat.le_of_ble_eq_true rfl⟩ rfl rfl rfl hl.1 rfl (Nat.le_of_ble_eq_true rfl) d_R_first_377 (fun H locs x307 hk hw => ?_)
            refine lv_iconst (v := 1) hx hb d_R_first_380 (by decide) ?_
            refine lv_isub hx hb d_R_first_381 ?_
            exact hj9 _ _ _ _ hk hw (lv_sub hl [2, 3, 4, 1, 0] rfl)
          · have hk := hk.2 hc
            refine lv_aload_n hx hb d_R_first_363 rfl (lv_at hl 2 rfl) ?_
            refine lv_iload hx hb d_R_first_364 (lv_at hl 0 rfl) ?_
            refine cl_Vip (j := 0) (As := [.int x2]) hC hw (ct_R_pair _ _ _ hk) q_73 mw_R_pair rfl ⟨rfl, rfl, Nat.le_of_ble_eq_true rfl, Nat.le_of_ble_eq_true rfl⟩ rfl rfl rfl hl.1 rfl (Nat.le_of_ble_eq_true rfl) d_R_first_366 (fun H locs x308 hk hw => ?_)
            refine lv_iconst (v := 1) hx hb d_R_first_369 (by decide) ?_
            refine lv_iadd hx hb d_R_first_370 ?_
            refine lv_goto (tgt := 382) hx hb d_R_first_371 (by decide) ?_
            exact hj9 _ _ _ _ hk hw (lv_sub hl [2, 3, 4, 1, 0] rfl)
        · have hk := hk.2 hs4
          by_cases hs5 : (a2 = (4 : Int32) ∨ a2 = (5 : Int32))
          · have hk := hk.1 hs5
            have hW : W p l e rm_R_first s m args below meth c H locs 0 0 QQ (F0 m 398 ls []) := by
              refine lv_aload_n hx hb d_R_first_398 rfl (lv_at hl 2 rfl) ?_
              refine lv_iload_n hx hb d_R_first_399 rfl (lv_at hl 3 rfl) ?_
              refine cl_Vi (j := 0) (As := [.int a1]) hC hw (ct_R_operand _ _ _ hk) q_86 mw_R_operand rfl ⟨rfl, rfl, Nat.le_of_ble_eq_true rfl, Nat.le_of_ble_eq_true rfl⟩ rfl rfl rfl hl.1 rfl (Nat.le_of_ble_eq_true rfl) d_R_first_400 (fun H locs x309 M310 hk hw => ?_)
              refine lv_istore (lv' := [(6, .int x309), (4, .int x2), (3, .int x1), (0, .ref (ad 0)), (1, .int a1), (2, .int a2)]) hx hb d_R_first_403 hl (by decide) rfl (fun ls hl => ?_)
              refine lv_iload_n hx hb d_R_first_405 rfl (lv_at hl 5 rfl) ?_
              refine lv_iconst (v := 4) hx hb d_R_first_406 (by decide) ?_
              have hj10 : ∀ (H : Heap) (locs : List Loc) (ls : Array Slot) (x366 : Int32), wp_R_first_j10 a1 a2 x309 M310 x366 Q → Wd D (ceR ad cA) A s H locs M310 → lv_has ls 8 [(0, .ref (ad 0)), (1, .int a1), (2, .int a2), (3, .int x1), (4, .int x2), (6, .int x309)] → W p l e rm_R_first s m args below meth c H locs 0 0 QQ (F0 m 421 ls [.int x366]) := by
                intro H locs ls x366 hk hw hl
                unfold wp_R_first_j10 at hk
                refine lv_sipush (v := 255) hx hb d_R_first_421 (by decide) ?_
                refine lv_iand hx hb d_R_first_424 ?_
                refine lv_topi (fun x367 e_x367 => ?_)
                have hk := hk x367 e_x367
                refine lv_istore (lv' := [(7, .int x367), (0, .ref (ad 0)), (1, .int a1), (2, .int a2), (3, .int x1), (4, .int x2), (6, .int x309)]) hx hb d_R_first_425 hl (by decide) rfl (fun ls hl => ?_)
                refine lv_aload_n hx hb d_R_first_427 rfl (lv_at hl 1 rfl) ?_
                refine lv_iload_n hx hb d_R_first_428 rfl (lv_at hl 2 rfl) ?_
                refine lv_iload hx hb d_R_first_429 (lv_at hl 0 rfl) ?_
                refine cl_Vv (j := 0) (As := [.int a1, .int x367]) hC hw (ct_R_setOperand _ _ _ _ hk) q_87 mw_R_setOperand rfl ⟨rfl, rfl, Nat.le_of_ble_eq_true rfl, Nat.le_of_ble_eq_true rfl⟩ rfl rfl rfl hl.1 rfl (Nat.le_of_ble_eq_true rfl) d_R_first_431 (fun H locs M368 hk hw => ?_)
                refine lv_aload_n hx hb d_R_first_434 rfl (lv_at hl 1 rfl) ?_
                refine lv_sipush (v := 128) hx hb d_R_first_435 (by decide) ?_
                refine lv_iload hx hb d_R_first_438 (lv_at hl 0 rfl) ?_
                have hj11 : ∀ (H : Heap) (locs : List Loc) (ls : Array Slot) (x395 : Int32), wp_R_first_j11 a2 x309 M368 x395 Q → Wd D (ceR ad cA) A s H locs M368 → lv_has ls 8 [(0, .ref (ad 0)), (1, .int a1), (2, .int a2), (3, .int x1), (4, .int x2), (6, .int x309), (7, .int x367)] → W p l e rm_R_first s m args below meth c H locs 0 0 QQ (F0 m 448 ls [.int x395, .int (128 : Int32), .ref (ad 0)]) := by
                  intro H locs ls x395 hk hw hl
                  unfold wp_R_first_j11 at hk
                  refine cl_Vv (j := 0) (As := [.int (128 : Int32), .int x395]) hC hw (ct_R_flag _ _ _ _ hk) q_79 mw_R_flag rfl ⟨rfl, rfl, Nat.le_of_ble_eq_true rfl, Nat.le_of_ble_eq_true rfl⟩ rfl rfl rfl hl.1 rfl (Nat.le_of_ble_eq_true rfl) d_R_first_448 (fun H locs M396 hk hw => ?_)
                  refine lv_aload_n hx hb d_R_first_451 rfl (lv_at hl 0 rfl) ?_
                  refine lv_bipush (v := 64) hx hb d_R_first_452 (by decide) ?_
                  refine lv_iload_n hx hb d_R_first_454 rfl (lv_at hl 2 rfl) ?_
                  refine lv_iconst (v := 5) hx hb d_R_first_455 (by decide) ?_
                  have hj12 : ∀ (H : Heap) (locs : List Loc) (ls : Array Slot) (x409 : Int32), wp_R_first_j12 a2 x309 M396 x409 Q → Wd D (ceR ad cA) A s H locs M396 → lv_has ls 8 [(0, .ref (ad 0)), (1, .int a1), (2, .int a2), (3, .int x1), (4, .int x2), (6, .int x309), (7, .int x367)] → W p l e rm_R_first s m args below meth c H locs 0 0 QQ (F0 m 464 ls [.int x409, .int (64 : Int32), .ref (ad 0)]) := by
                    intro H locs ls x409 hk hw hl
                    unfold wp_R_first_j12 at hk
                    refine cl_Vv (j := 0) (As := [.int (64 : Int32), .int x409]) hC hw (ct_R_flag _ _ _ _ hk) q_79 mw_R_flag rfl ⟨rfl, rfl, Nat.le_of_ble_eq_true rfl, Nat.le_of_ble_eq_true rfl⟩ rfl rfl rfl hl.1 rfl (Nat.le_of_ble_eq_true rfl) d_R_first_464 (fun H locs M410 hk hw => ?_)
                    refine lv_aload_n hx hb d_R_first_467 rfl (lv_at hl 0 rfl) ?_
                    refine lv_bipush (v := 32) hx hb d_R_first_468 (by decide) ?_
                    refine lv_iload hx hb d_R_first_470 (lv_at hl 5 rfl) ?_
                    refine lv_bipush (v := 15) hx hb d_R_first_472 (by decide) ?_
                    refine lv_iand hx hb d_R_first_474 ?_
                    refine lv_iload_n hx hb d_R_first_475 rfl (lv_at hl 2 rfl) ?_
                    refine lv_iconst (v := 4) hx hb d_R_first_476 (by decide) ?_
                    have hj13 : ∀ (H : Heap) (locs : List Loc) (ls : Array Slot) (x416 : Int32), wp_R_first_j13 x309 M410 x416 Q → Wd D (ceR ad cA) A s H locs M410 → lv_has ls 8 [(0, .ref (ad 0)), (1, .int a1), (2, .int a2), (3, .int x1), (4, .int x2), (6, .int x309), (7, .int x367)] → W p l e rm_R_first s m args below meth c H locs 0 0 QQ (F0 m 486 ls [.int x416, .int (x309 &&& (15 : Int32)), .int (32 : Int32), .ref (ad 0)]) := by
                      intro H locs ls x416 hk hw hl
                      unfold wp_R_first_j13 at hk
                      have hj14 : ∀ (H : Heap) (locs : List Loc) (ls : Array Slot) (x419 : Int32), wp_R_first_j14 M410 x419 Q → Wd D (ceR ad cA) A s H locs M410 → lv_has ls 8 [(0, .ref (ad 0)), (1, .int a1), (2, .int a2), (3, .int x1), (4, .int x2), (6, .int x309), (7, .int x367)] → W p l e rm_R_first s m args below meth c H locs 0 0 QQ (F0 m 494 ls [.int x419, .int (32 : Int32), .ref (ad 0)]) := by
                        intro H locs ls x419 hk hw hl
                        unfold wp_R_first_j14 at hk
                        refine cl_Vv (j := 0) (As := [.int (32 : Int32), .int x419]) hC hw (ct_R_flag _ _ _ _ hk) q_79 mw_R_flag rfl ⟨rfl, rfl, Nat.le_of_ble_eq_true rfl, Nat.le_of_ble_eq_true rfl⟩ rfl rfl rfl hl.1 rfl (Nat.le_of_ble_eq_true rfl) d_R_first_494 (fun H locs M420 hk hw => ?_)
                        refine lv_goto (tgt := 517) hx hb d_R_first_497 (by decide) ?_
                        exact hj1 _ _ _ _ hk hw (lv_sub hl [0, 1, 2, 3, 4] rfl)
                      refine lv_icmp_ne (tgt := 493) hx hb d_R_first_486 (by decide) (fun hc => ?_) (fun hc => ?_)
                      · have hk := hk.1 hc
                        refine lv_iconst (v := 0) hx hb d_R_first_493 (by decide) ?_
                        exact hj14 _ _ _ _ hk hw (lv_sub hl [0, 1, 2, 3, 4, 5, 6] rfl)
                      · have hk := hk.2 hc
                        refine lv_iconst (v := 1) hx hb d_R_first_489 (by decide) ?_
                        refine lv_goto (tgt := 494) hx hb d_R_first_490 (by decide) ?_
                        exact hj14 _ _ _ _ hk hw (lv_sub hl [0, 1, 2, 3, 4, 5, 6] rfl)
                    refine lv_icmp_ne (tgt := 485) hx hb d_R_first_477 (by decide) (fun hc => ?_) (fun hc => ?_)
                    · have hk := hk.1 hc
                      refine lv_iconst (v := 0) hx hb d_R_first_485 (by decide) ?_
                      exact hj13 _ _ _ _ hk hw (lv_sub hl [0, 1, 2, 3, 4, 5, 6] rfl)
                    · have hk := hk.2 hc
                      refine lv_bipush (v := 15) hx hb d_R_first_480 (by decide) ?_
                      refine lv_goto (tgt := 486) hx hb d_R_first_482 (by decide) ?_
                      exact hj13 _ _ _ _ hk hw (lv_sub hl [0, 1, 2, 3, 4, 5, 6] rfl)
                  refine lv_icmp_ne (tgt := 463) hx hb d_R_first_456 (by decide) (fun hc => ?_) (fun hc => ?_)
                  · have hk := hk.1 hc
                    refine lv_iconst (v := 0) hx hb d_R_first_463 (by decide) ?_
                    exact hj12 _ _ _ _ hk hw (lv_sub hl [0, 1, 2, 3, 4, 5, 6] rfl)
                  · have hk := hk.2 hc
                    refine lv_iconst (v := 1) hx hb d_R_first_459 (by decide) ?_
                    refine lv_goto (tgt := 464) hx hb d_R_first_460 (by decide) ?_
                    exact hj12 _ _ _ _ hk hw (lv_sub hl [0, 1, 2, 3, 4, 5, 6] rfl)
                refine lv_if_ne (tgt := 447) hx hb d_R_first_440 (by decide) (fun hc => ?_) (fun hc => ?_)
                · have hk := hk.1 hc
                  refine lv_iconst (v := 0) hx hb d_R_first_447 (by decide) ?_
                  exact hj11 _ _ _ _ hk hw (lv_sub hl [1, 2, 3, 4, 5, 6, 0] rfl)
                · have hk := hk.2 hc
                  refine lv_iconst (v := 1) hx hb d_R_first_443 (by decide) ?_
                  refine lv_goto (tgt := 448) hx hb d_R_first_444 (by decide) ?_
                  exact hj11 _ _ _ _ hk hw (lv_sub hl [1, 2, 3, 4, 5, 6, 0] rfl)
              refine lv_icmp_ne (tgt := 417) hx hb d_R_first_407 (by decide) (fun hc => ?_) (fun hc => ?_)
              · have hk := hk.1 hc
                refine lv_iload hx hb d_R_first_417 (lv_at hl 0 rfl) ?_
                refine lv_iconst (v := 1) hx hb d_R_first_419 (by decide) ?_
                refine lv_isub hx hb d_R_first_420 ?_
                exact hj10 _ _ _ _ hk hw (lv_sub hl [3, 4, 5, 2, 1, 0] rfl)
              · have hk := hk.2 hc
                refine lv_iload hx hb d_R_first_410 (lv_at hl 0 rfl) ?_
                refine lv_iconst (v := 1) hx hb d_R_first_412 (by decide) ?_
                refine lv_iadd hx hb d_R_first_413 ?_
                refine lv_goto (tgt := 421) hx hb d_R_first_414 (by decide) ?_
                exact hj10 _ _ _ _ hk hw (lv_sub hl [3, 4, 5, 2, 1, 0] rfl)
            rcases hs5 with hs5 | hs5
            · exact lv_tableIn (x := a2) (off := 388) (tgt := 398) hx hb d_R_first_10 (by rw [hs5]; decide) (by rw [hs5]; decide) (by rw [hs5]; decide) (by decide) hW
            · exact lv_tableIn (x := a2) (off := 388) (tgt := 398) hx hb d_R_first_10 (by rw [hs5]; decide) (by rw [hs5]; decide) (by rw [hs5]; decide) (by decide) hW
          · have hk := hk.2 hs5
            have hs6 : ¬ a2 = (4 : Int32) := fun z => hs5 (by simp [z])
            have hs7 : ¬ a2 = (5 : Int32) := fun z => hs5 (by simp [z])
            by_cases hs8 : (a2 = (6 : Int32))
            · have hk := hk.1 hs8
              refine lv_tableIn (x := a2) (off := 490) (tgt := 500) hx hb d_R_first_10 (by rw [hs8]; decide) (by rw [hs8]; decide) (by rw [hs8]; decide) (by decide) ?_
              refine lv_aload_n hx hb d_R_first_500 rfl (lv_at hl 2 rfl) ?_
              refine lv_iload_n hx hb d_R_first_501 rfl (lv_at hl 3 rfl) ?_
              refine lv_aload_n hx hb d_R_first_502 rfl (lv_at hl 2 rfl) ?_
              refine cl_Vi (j := 0) (As := []) hC hw (ct_R_next _  _ hk) q_72 mw_R_next rfl ⟨rfl, rfl, Nat.le_of_ble_eq_true rfl, Nat.le_of_ble_eq_true rfl⟩ rfl rfl rfl hl.1 rfl (Nat.le_of_ble_eq_true rfl) d_R_first_503 (fun H locs x421 M422 hk hw => ?_)
              refine cl_Vv (j := 0) (As := [.int a1, .int x421]) hC hw (ct_R_setOperand _ _ _ _ hk) q_87 mw_R_setOperand rfl ⟨rfl, rfl, Nat.le_of_ble_eq_true rfl, Nat.le_of_ble_eq_true rfl⟩ rfl rfl rfl hl.1 rfl (Nat.le_of_ble_eq_true rfl) d_R_first_506 (fun H locs M423 hk hw => ?_)
              refine lv_goto (tgt := 517) hx hb d_R_first_509 (by decide) ?_
              exact hj1 _ _ _ _ hk hw (lv_sub hl [2, 3, 4, 1, 0] rfl)
            · have hk := hk.2 hs8
              refine lv_tableOut (x := a2) (tgt := 512) hx hb d_R_first_10 (by have hz := (⟨lv_neT hs1 (show ((0 : Int32)).toInt = 0 by decide), lv_neT hs2 (show ((1 : Int32)).toInt = 1 by decide), lv_neT hs3 (show ((2 : Int32)).toInt = 2 by decide), lv_neT hs4 (show ((3 : Int32)).toInt = 3 by decide), lv_neT hs6 (show ((4 : Int32)).toInt = 4 by decide), lv_neT hs7 (show ((5 : Int32)).toInt = 5 by decide), lv_neT hs8 (show ((6 : Int32)).toInt = 6 by decide)⟩ : ¬ (a2).toInt = 0 ∧ ¬ (a2).toInt = 1 ∧ ¬ (a2).toInt = 2 ∧ ¬ (a2).toInt = 3 ∧ ¬ (a2).toInt = 4 ∧ ¬ (a2).toInt = 5 ∧ ¬ (a2).toInt = 6); omega) (by decide) ?_
              refine lv_aload_n hx hb d_R_first_512 rfl (lv_at hl 2 rfl) ?_
              refine lv_iload_n hx hb d_R_first_513 rfl (lv_at hl 3 rfl) ?_
              refine cl_Vv (j := 0) (As := [.int a1]) hC hw (ct_R_accumulator _ _ _ hk) q_88 mw_R_accumulator rfl ⟨rfl, rfl, Nat.le_of_ble_eq_true rfl, Nat.le_of_ble_eq_true rfl⟩ rfl rfl rfl hl.1 rfl (Nat.le_of_ble_eq_true rfl) d_R_first_514 (fun H locs M424 hk hw => ?_)
              exact hj1 _ _ _ _ hk hw (lv_sub hl [2, 3, 4, 1, 0] rfl)
set_option maxHeartbeats 4000000 in
set_option maxRecDepth 100000 in
theorem ct_R_spAnd {l : Launch} {D : va_G} {cA : ClassId} {ad tb : Nat → Nat} (M0 : Mem) (Q : Int32 → Mem → Prop) (hk : wp_R_spAnd M0 Q) : Ct l y_R_spAnd ws_R_spAnd rm_R_spAnd D (ceR ad cA) cA tb [.ref (ad 0)] M0 (QI Q) := by
  refine Ct.of (own := "TileConsoleModel") (cc := b_R_spAnd) (maxL := 2) (ret := (some .int)) ceR_fix (by decide) rfl rfl (Nat.le_of_ble_eq_true rfl) ?_
  intro p e s m args below meth c A QQ ls H locs hQQ hC hr hlk hw hl
  have hx := hC.1.1
  have hb := hC.1.2.1
  unfold wp_R_spAnd at hk
  have hl : lv_has ls 2 [(0, .ref (ad 0))] := hl
  refine lv_aload_n hx hb d_R_spAnd_0 rfl (lv_at hl 0 rfl) ?_
  refine cl_Vi (j := 0) (As := []) hC hw (ct_R_next _  _ hk) q_72 mw_R_next rfl ⟨rfl, rfl, Nat.le_of_ble_eq_true rfl, Nat.le_of_ble_eq_true rfl⟩ rfl rfl rfl hl.1 rfl (Nat.le_of_ble_eq_true rfl) d_R_spAnd_1 (fun H locs x1 M2 hk hw => ?_)
  refine lv_istore_n (lv' := [(1, .int x1), (0, .ref (ad 0))]) hx hb d_R_spAnd_4 rfl hl (by decide) rfl (fun ls hl => ?_)
  refine lv_aload_n hx hb d_R_spAnd_5 rfl (lv_at hl 1 rfl) ?_
  refine lv_iconst (v := 0) hx hb d_R_spAnd_6 (by decide) ?_
  refine lv_iconst (v := 0) hx hb d_R_spAnd_7 (by decide) ?_
  refine lv_aload_n hx hb d_R_spAnd_8 rfl (lv_at hl 1 rfl) ?_
  refine g_R_sp hC hw q_15 d_R_spAnd_9 ?_
  refine lv_bipush (v := 15) hx hb d_R_spAnd_12 (by decide) ?_
  refine lv_iand hx hb d_R_spAnd_14 ?_
  refine lv_iload_n hx hb d_R_spAnd_15 rfl (lv_at hl 0 rfl) ?_
  refine lv_bipush (v := 15) hx hb d_R_spAnd_16 (by decide) ?_
  refine lv_iand hx hb d_R_spAnd_18 ?_
  refine lv_iadd hx hb d_R_spAnd_19 ?_
  refine lv_bipush (v := 15) hx hb d_R_spAnd_20 (by decide) ?_
  have hj1 : ∀ (H : Heap) (locs : List Loc) (ls : Array Slot) (x10 : Int32), wp_R_spAnd_j1 x1 M2 x10 Q → Wd D (ceR ad cA) A s H locs M2 → lv_has ls 2 [(0, .ref (ad 0)), (1, .int x1)] → W p l e rm_R_spAnd s m args below meth c H locs 0 0 QQ (F0 m 30 ls [.int x10, .int (0 : Int32), .int (0 : Int32), .ref (ad 0)]) := by
    intro H locs ls x10 hk hw hl
    unfold wp_R_spAnd_j1 at hk
    refine lv_aload_n hx hb d_R_spAnd_30 rfl (lv_at hl 0 rfl) ?_
    refine g_R_sp hC hw q_15 d_R_spAnd_31 ?_
    refine lv_sipush (v := 255) hx hb d_R_spAnd_34 (by decide) ?_
    refine lv_iand hx hb d_R_spAnd_37 ?_
    refine lv_iload_n hx hb d_R_spAnd_38 rfl (lv_at hl 1 rfl) ?_
    refine lv_iadd hx hb d_R_spAnd_39 ?_
    refine lv_sipush (v := 255) hx hb d_R_spAnd_40 (by decide) ?_
    have hj2 : ∀ (H : Heap) (locs : List Loc) (ls : Array Slot) (x14 : Int32), wp_R_spAnd_j2 x1 M2 x10 x14 Q → Wd D (ceR ad cA) A s H locs M2 → lv_has ls 2 [(0, .ref (ad 0)), (1, .int x1)] → W p l e rm_R_spAnd s m args below meth c H locs 0 0 QQ (F0 m 51 ls [.int x14, .int x10, .int (0 : Int32), .int (0 : Int32), .ref (ad 0)]) := by
      intro H locs ls x14 hk hw hl
      unfold wp_R_spAnd_j2 at hk
      refine cl_Vv (j := 0) (As := [.int (0 : Int32), .int (0 : Int32), .int x10, .int x14]) hC hw (ct_R_flagged _ _ _ _ _ _ hk) q_76 mw_R_flagged rfl ⟨rfl, rfl, Nat.le_of_ble_eq_true rfl, Nat.le_of_ble_eq_true rfl⟩ rfl rfl rfl hl.1 rfl (Nat.le_of_ble_eq_true rfl) d_R_spAnd_51 (fun H locs M15 hk hw => ?_)
      refine lv_aload_n hx hb d_R_spAnd_54 rfl (lv_at hl 0 rfl) ?_
      refine g_R_sp hC hw q_15 d_R_spAnd_55 ?_
      refine lv_iload_n hx hb d_R_spAnd_58 rfl (lv_at hl 1 rfl) ?_
      refine cl_Sip (As := [.int x1]) hC hw (ct_R_signed _ _ _ hk) q_81 mw_R_signed rfl ⟨rfl, rfl, Nat.le_of_ble_eq_true rfl, Nat.le_of_ble_eq_true rfl⟩ rfl hl.1 rfl (Nat.le_of_ble_eq_true rfl) d_R_spAnd_59 (fun H locs x16 hk hw => ?_)
      refine lv_iadd hx hb d_R_spAnd_62 ?_
      refine lv_ldc (v := (65535 : Int32)) hx hb hC.1.2.2.2.1 (hC.1.2.2.2.2 _ q_59) d_R_spAnd_63 ?_
      refine lv_iand hx hb d_R_spAnd_65 ?_
      exact rt_i hQQ hx hb hr hlk hw ⟨_, rfl, hk⟩ d_R_spAnd_66
    refine lv_icmp_le (tgt := 50) hx hb d_R_spAnd_43 (by decide) (fun hc => ?_) (fun hc => ?_)
    · have hk := hk.1 hc
      refine lv_iconst (v := 0) hx hb d_R_spAnd_50 (by decide) ?_
      exact hj2 _ _ _ _ hk hw (lv_sub hl [0, 1] rfl)
    · have hk := hk.2 hc
      refine lv_iconst (v := 1) hx hb d_R_spAnd_46 (by decide) ?_
      refine lv_goto (tgt := 51) hx hb d_R_spAnd_47 (by decide) ?_
      exact hj2 _ _ _ _ hk hw (lv_sub hl [0, 1] rfl)
  refine lv_icmp_le (tgt := 29) hx hb d_R_spAnd_22 (by decide) (fun hc => ?_) (fun hc => ?_)
  · have hk := hk.1 hc
    refine lv_iconst (v := 0) hx hb d_R_spAnd_29 (by decide) ?_
    exact hj1 _ _ _ _ hk hw (lv_sub hl [1, 0] rfl)
  · have hk := hk.2 hc
    refine lv_iconst (v := 1) hx hb d_R_spAnd_25 (by decide) ?_
    refine lv_goto (tgt := 30) hx hb d_R_spAnd_26 (by decide) ?_
    exact hj1 _ _ _ _ hk hw (lv_sub hl [1, 0] rfl)
set_option maxHeartbeats 4000000 in
set_option maxRecDepth 100000 in
theorem ct_R_bits {l : Launch} {D : va_G} {cA : ClassId} {ad tb : Nat → Nat} (M0 : Mem) (Q : Mem → Prop) (hk : wp_R_bits M0 Q) : Ct l y_R_bits ws_R_bits rm_R_bits D (ceR ad cA) cA tb [.ref (ad 0)] M0 (QV Q) := by
  refine Ct.of (own := "TileConsoleModel") (cc := b_R_bits) (maxL := 6) (ret := none) ceR_fix (by decide) rfl rfl (Nat.le_of_ble_eq_true rfl) ?_
  intro p e s m args below meth c A QQ ls H locs hQQ hC hr hlk hw hl
  have hx := hC.1.1
  have hb := hC.1.2.1
  unfold wp_R_bits at hk
  have hl : lv_has ls 6 [(0, .ref (ad 0))] := hl
  refine lv_aload_n hx hb d_R_bits_0 rfl (lv_at hl 0 rfl) ?_
  refine cl_Vi (j := 0) (As := []) hC hw (ct_R_next _  _ hk) q_72 mw_R_next rfl ⟨rfl, rfl, Nat.le_of_ble_eq_true rfl, Nat.le_of_ble_eq_true rfl⟩ rfl rfl rfl hl.1 rfl (Nat.le_of_ble_eq_true rfl) d_R_bits_1 (fun H locs x1 M2 hk hw => ?_)
  refine lv_istore_n (lv' := [(1, .int x1), (0, .ref (ad 0))]) hx hb d_R_bits_4 rfl hl (by decide) rfl (fun ls hl => ?_)
  refine lv_iload_n hx hb d_R_bits_5 rfl (lv_at hl 0 rfl) ?_
  refine lv_bipush (v := 6) hx hb d_R_bits_6 (by decide) ?_
  refine lv_ishr hx hb d_R_bits_8 ?_
  refine lv_topi (fun x3 e_x3 => ?_)
  have hk := hk x3 e_x3
  refine lv_istore_n (lv' := [(2, .int x3), (1, .int x1), (0, .ref (ad 0))]) hx hb d_R_bits_9 rfl hl (by decide) rfl (fun ls hl => ?_)
  refine lv_iload_n hx hb d_R_bits_10 rfl (lv_at hl 1 rfl) ?_
  refine lv_iconst (v := 3) hx hb d_R_bits_11 (by decide) ?_
  refine lv_ishr hx hb d_R_bits_12 ?_
  refine lv_bipush (v := 7) hx hb d_R_bits_13 (by decide) ?_
  refine lv_iand hx hb d_R_bits_15 ?_
  refine lv_topi (fun x4 e_x4 => ?_)
  have hk := hk x4 e_x4
  refine lv_istore_n (lv' := [(3, .int x4), (2, .int x3), (1, .int x1), (0, .ref (ad 0))]) hx hb d_R_bits_16 rfl hl (by decide) rfl (fun ls hl => ?_)
  refine lv_iload_n hx hb d_R_bits_17 rfl (lv_at hl 2 rfl) ?_
  refine lv_bipush (v := 7) hx hb d_R_bits_18 (by decide) ?_
  refine lv_iand hx hb d_R_bits_20 ?_
  refine lv_topi (fun x5 e_x5 => ?_)
  have hk := hk x5 e_x5
  refine lv_istore (lv' := [(4, .int x5), (3, .int x4), (2, .int x3), (1, .int x1), (0, .ref (ad 0))]) hx hb d_R_bits_21 hl (by decide) rfl (fun ls hl => ?_)
  refine lv_aload_n hx hb d_R_bits_23 rfl (lv_at hl 4 rfl) ?_
  refine lv_iload hx hb d_R_bits_24 (lv_at hl 0 rfl) ?_
  refine cl_Vi (j := 0) (As := [.int x5]) hC hw (ct_R_operand _ _ _ hk) q_86 mw_R_operand rfl ⟨rfl, rfl, Nat.le_of_ble_eq_true rfl, Nat.le_of_ble_eq_true rfl⟩ rfl rfl rfl hl.1 rfl (Nat.le_of_ble_eq_true rfl) d_R_bits_26 (fun H locs x6 M7 hk hw => ?_)
  refine lv_istore (lv' := [(5, .int x6), (4, .int x5), (3, .int x4), (2, .int x3), (1, .int x1), (0, .ref (ad 0))]) hx hb d_R_bits_29 hl (by decide) rfl (fun ls hl => ?_)
  refine lv_iload_n hx hb d_R_bits_31 rfl (lv_at hl 3 rfl) ?_
  have hj1 : ∀ (H : Heap) (locs : List Loc) (ls : Array Slot) (M24 : Mem), wp_R_bits_j1 M24 Q → Wd D (ceR ad cA) A s H locs M24 → lv_has ls 6 [(0, .ref (ad 0)), (1, .int x1), (2, .int x3), (3, .int x4), (4, .int x5), (5, .int x6)] → W p l e rm_R_bits s m args below meth c H locs 0 0 QQ (F0 m 122 ls []) := by
    intro H locs ls M24 hk hw hl
    unfold wp_R_bits_j1 at hk
    exact rt_v hQQ hx hb hr hlk hw ⟨rfl, hk⟩ d_R_bits_122
  refine lv_if_ne (tgt := 51) hx hb d_R_bits_32 (by decide) (fun hc => ?_) (fun hc => ?_)
  · have hk := hk.1 hc
    refine lv_iload_n hx hb d_R_bits_51 rfl (lv_at hl 3 rfl) ?_
    refine lv_iconst (v := 1) hx hb d_R_bits_52 (by decide) ?_
    refine lv_icmp_ne (tgt := 94) hx hb d_R_bits_53 (by decide) (fun hc => ?_) (fun hc => ?_)
    · have hk := hk.1 hc
      refine lv_aload_n hx hb d_R_bits_94 rfl (lv_at hl 5 rfl) ?_
      refine lv_iload hx hb d_R_bits_95 (lv_at hl 1 rfl) ?_
      refine lv_iload_n hx hb d_R_bits_97 rfl (lv_at hl 3 rfl) ?_
      refine lv_iconst (v := 2) hx hb d_R_bits_98 (by decide) ?_
      have hj2 : ∀ (H : Heap) (locs : List Loc) (ls : Array Slot) (x27 : Int32), wp_R_bits_j2 x5 M7 x27 Q → Wd D (ceR ad cA) A s H locs M7 → lv_has ls 6 [(0, .ref (ad 0)), (1, .int x1), (2, .int x3), (3, .int x4), (4, .int x5), (5, .int x6)] → W p l e rm_R_bits s m args below meth c H locs 0 0 QQ (F0 m 119 ls [.int x27, .int x5, .ref (ad 0)]) := by
        intro H locs ls x27 hk hw hl
        unfold wp_R_bits_j2 at hk
        refine cl_Vv (j := 0) (As := [.int x5, .int x27]) hC hw (ct_R_setOperand _ _ _ _ hk) q_87 mw_R_setOperand rfl ⟨rfl, rfl, Nat.le_of_ble_eq_true rfl, Nat.le_of_ble_eq_true rfl⟩ rfl rfl rfl hl.1 rfl (Nat.le_of_ble_eq_true rfl) d_R_bits_119 (fun H locs M28 hk hw => ?_)
        exact hj1 _ _ _ _ hk hw (lv_sub hl [0, 1, 2, 3, 4, 5] rfl)
      refine lv_icmp_ne (tgt := 113) hx hb d_R_bits_99 (by decide) (fun hc => ?_) (fun hc => ?_)
      · have hk := hk.1 hc
        refine lv_iload hx hb d_R_bits_113 (lv_at hl 0 rfl) ?_
        refine lv_iconst (v := 1) hx hb d_R_bits_115 (by decide) ?_
        refine lv_iload_n hx hb d_R_bits_116 rfl (lv_at hl 2 rfl) ?_
        refine lv_ishl hx hb d_R_bits_117 ?_
        refine lv_ior hx hb d_R_bits_118 ?_
        exact hj2 _ _ _ _ hk hw (lv_sub hl [5, 4, 3, 2, 1, 0] rfl)
      · have hk := hk.2 hc
        refine lv_iload hx hb d_R_bits_102 (lv_at hl 0 rfl) ?_
        refine lv_iconst (v := 1) hx hb d_R_bits_104 (by decide) ?_
        refine lv_iload_n hx hb d_R_bits_105 rfl (lv_at hl 2 rfl) ?_
        refine lv_ishl hx hb d_R_bits_106 ?_
        refine lv_iconst (v := (-1)) hx hb d_R_bits_107 (by decide) ?_
        refine lv_ixor hx hb d_R_bits_108 ?_
        refine lv_iand hx hb d_R_bits_109 ?_
        refine lv_goto (tgt := 119) hx hb d_R_bits_110 (by decide) ?_
        exact hj2 _ _ _ _ hk hw (lv_sub hl [5, 4, 3, 2, 1, 0] rfl)
    · have hk := hk.2 hc
      refine lv_aload_n hx hb d_R_bits_56 rfl (lv_at hl 5 rfl) ?_
      refine lv_sipush (v := 128) hx hb d_R_bits_57 (by decide) ?_
      refine lv_iload hx hb d_R_bits_60 (lv_at hl 0 rfl) ?_
      refine lv_iload_n hx hb d_R_bits_62 rfl (lv_at hl 2 rfl) ?_
      refine lv_ishr hx hb d_R_bits_63 ?_
      refine lv_iconst (v := 1) hx hb d_R_bits_64 (by decide) ?_
      refine lv_iand hx hb d_R_bits_65 ?_
      have hj3 : ∀ (H : Heap) (locs : List Loc) (ls : Array Slot) (x33 : Int32), wp_R_bits_j3 M7 x33 Q → Wd D (ceR ad cA) A s H locs M7 → lv_has ls 6 [(0, .ref (ad 0)), (1, .int x1), (2, .int x3), (3, .int x4), (4, .int x5), (5, .int x6)] → W p l e rm_R_bits s m args below meth c H locs 0 0 QQ (F0 m 74 ls [.int x33, .int (128 : Int32), .ref (ad 0)]) := by
        intro H locs ls x33 hk hw hl
        unfold wp_R_bits_j3 at hk
        refine cl_Vv (j := 0) (As := [.int (128 : Int32), .int x33]) hC hw (ct_R_flag _ _ _ _ hk) q_79 mw_R_flag rfl ⟨rfl, rfl, Nat.le_of_ble_eq_true rfl, Nat.le_of_ble_eq_true rfl⟩ rfl rfl rfl hl.1 rfl (Nat.le_of_ble_eq_true rfl) d_R_bits_74 (fun H locs M34 hk hw => ?_)
        refine lv_aload_n hx hb d_R_bits_77 rfl (lv_at hl 0 rfl) ?_
        refine lv_bipush (v := 64) hx hb d_R_bits_78 (by decide) ?_
        refine lv_iconst (v := 0) hx hb d_R_bits_80 (by decide) ?_
        refine cl_Vv (j := 0) (As := [.int (64 : Int32), .int (0 : Int32)]) hC hw (ct_R_flag _ _ _ _ hk) q_79 mw_R_flag rfl ⟨rfl, rfl, Nat.le_of_ble_eq_true rfl, Nat.le_of_ble_eq_true rfl⟩ rfl rfl rfl hl.1 rfl (Nat.le_of_ble_eq_true rfl) d_R_bits_81 (fun H locs M35 hk hw => ?_)
        refine lv_aload_n hx hb d_R_bits_84 rfl (lv_at hl 0 rfl) ?_
        refine lv_bipush (v := 32) hx hb d_R_bits_85 (by decide) ?_
        refine lv_iconst (v := 1) hx hb d_R_bits_87 (by decide) ?_
        refine cl_Vv (j := 0) (As := [.int (32 : Int32), .int (1 : Int32)]) hC hw (ct_R_flag _ _ _ _ hk) q_79 mw_R_flag rfl ⟨rfl, rfl, Nat.le_of_ble_eq_true rfl, Nat.le_of_ble_eq_true rfl⟩ rfl rfl rfl hl.1 rfl (Nat.le_of_ble_eq_true rfl) d_R_bits_88 (fun H locs M36 hk hw => ?_)
        refine lv_goto (tgt := 122) hx hb d_R_bits_91 (by decide) ?_
        exact hj1 _ _ _ _ hk hw (lv_sub hl [0, 1, 2, 3, 4, 5] rfl)
      refine lv_if_ne (tgt := 73) hx hb d_R_bits_66 (by decide) (fun hc => ?_) (fun hc => ?_)
      · have hk := hk.1 hc
        refine lv_iconst (v := 0) hx hb d_R_bits_73 (by decide) ?_
        exact hj3 _ _ _ _ hk hw (lv_sub hl [5, 4, 3, 2, 1, 0] rfl)
      · have hk := hk.2 hc
        refine lv_iconst (v := 1) hx hb d_R_bits_69 (by decide) ?_
        refine lv_goto (tgt := 74) hx hb d_R_bits_70 (by decide) ?_
        exact hj3 _ _ _ _ hk hw (lv_sub hl [5, 4, 3, 2, 1, 0] rfl)
  · have hk := hk.2 hc
    refine lv_aload_n hx hb d_R_bits_35 rfl (lv_at hl 5 rfl) ?_
    refine lv_iload hx hb d_R_bits_36 (lv_at hl 1 rfl) ?_
    refine lv_aload_n hx hb d_R_bits_38 rfl (lv_at hl 5 rfl) ?_
    refine lv_iload_n hx hb d_R_bits_39 rfl (lv_at hl 2 rfl) ?_
    refine lv_iload hx hb d_R_bits_40 (lv_at hl 0 rfl) ?_
    refine cl_Vi (j := 0) (As := [.int x4, .int x6]) hC hw (ct_R_turned _ _ _ _ hk) q_80 mw_R_turned rfl ⟨rfl, rfl, Nat.le_of_ble_eq_true rfl, Nat.le_of_ble_eq_true rfl⟩ rfl rfl rfl hl.1 rfl (Nat.le_of_ble_eq_true rfl) d_R_bits_42 (fun H locs x37 M38 hk hw => ?_)
    refine cl_Vv (j := 0) (As := [.int x5, .int x37]) hC hw (ct_R_setOperand _ _ _ _ hk) q_87 mw_R_setOperand rfl ⟨rfl, rfl, Nat.le_of_ble_eq_true rfl, Nat.le_of_ble_eq_true rfl⟩ rfl rfl rfl hl.1 rfl (Nat.le_of_ble_eq_true rfl) d_R_bits_45 (fun H locs M39 hk hw => ?_)
    refine lv_goto (tgt := 122) hx hb d_R_bits_48 (by decide) ?_
    exact hj1 _ _ _ _ hk hw (lv_sub hl [5, 4, 3, 2, 1, 0] rfl)
