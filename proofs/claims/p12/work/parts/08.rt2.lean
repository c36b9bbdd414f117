set_option maxHeartbeats 4000000 in
set_option maxRecDepth 100000 in
theorem ct_R_nextWord {l : Launch} {D : va_G} {cA : ClassId} {ad tb : Nat → Nat} (M0 : Mem) (Q : Int32 → Mem → Prop) (hk : wp_R_nextWord M0 Q) : Ct l y_R_nextWord ws_R_nextWord rm_R_nextWord D (ceR ad cA) cA tb [.ref (ad 0)] M0 (QI Q) := by
  refine Ct.of (own := "TileConsoleModel") (cc := b_R_nextWord) (maxL := 2) (ret := (some .int)) ceR_fix (by decide) rfl rfl (Nat.le_of_ble_eq_true rfl) ?_
  intro p e s m args below meth c A QQ ls H locs hQQ hC hr hlk hw hl
  have hx := hC.1.1
  have hb := hC.1.2.1
  unfold wp_R_nextWord at hk
  have hl : lv_has ls 2 [(0, .ref (ad 0))] := hl
  refine lv_aload_n hx hb d_R_nextWord_0 rfl (lv_at hl 0 rfl) ?_
  refine cl_Vi (j := 0) (As := []) hC hw (ct_R_next _  _ hk) q_72 mw_R_next rfl ⟨rfl, rfl, Nat.le_of_ble_eq_true rfl, Nat.le_of_ble_eq_true rfl⟩ rfl rfl rfl hl.1 rfl (Nat.le_of_ble_eq_true rfl) d_R_nextWord_1 (fun H locs x1 M2 hk hw => ?_)
  refine lv_istore_n (lv' := [(1, .int x1), (0, .ref (ad 0))]) hx hb d_R_nextWord_4 rfl hl (by decide) rfl (fun ls hl => ?_)
  refine lv_iload_n hx hb d_R_nextWord_5 rfl (lv_at hl 0 rfl) ?_
  refine lv_aload_n hx hb d_R_nextWord_6 rfl (lv_at hl 1 rfl) ?_
  refine cl_Vi (j := 0) (As := []) hC hw (ct_R_next _  _ hk) q_72 mw_R_next rfl ⟨rfl, rfl, Nat.le_of_ble_eq_true rfl, Nat.le_of_ble_eq_true rfl⟩ rfl rfl rfl hl.1 rfl (Nat.le_of_ble_eq_true rfl) d_R_nextWord_7 (fun H locs x3 M4 hk hw => ?_)
  refine lv_bipush (v := 8) hx hb d_R_nextWord_10 (by decide) ?_
  refine lv_ishl hx hb d_R_nextWord_12 ?_
  refine lv_ior hx hb d_R_nextWord_13 ?_
  exact rt_i hQQ hx hb hr hlk hw ⟨_, rfl, hk⟩ d_R_nextWord_14
set_option maxHeartbeats 4000000 in
set_option maxRecDepth 100000 in
theorem ct_R_signed {l : Launch} {D : va_G} {cA : ClassId} {ad tb : Nat → Nat} (M0 : Mem) (a1 : Int32) (Q : Int32 → Prop) (hk : wp_R_signed M0 a1 Q) : Ct l y_R_signed ws_R_signed rm_R_signed D (ceR ad cA) cA tb [.int a1] M0 (QIp M0 Q) := by
  refine Ct.of (own := "TileConsoleModel") (cc := b_R_signed) (maxL := 1) (ret := (some .int)) ceR_fix (by decide) rfl rfl (Nat.le_of_ble_eq_true rfl) ?_
  intro p e s m args below meth c A QQ ls H locs hQQ hC hr hlk hw hl
  have hx := hC.1.1
  have hb := hC.1.2.1
  unfold wp_R_signed at hk
  have hl : lv_has ls 1 [(0, .int a1)] := hl
  refine lv_iload_n hx hb d_R_signed_0 rfl (lv_at hl 0 rfl) ?_
  refine lv_bipush (v := 127) hx hb d_R_signed_1 (by decide) ?_
  have hj1 : ∀ (H : Heap) (locs : List Loc) (ls : Array Slot) (x2 : Int32), wp_R_signed_j1 x2 Q → Wd D (ceR ad cA) A s H locs M0 → lv_has ls 1 [(0, .int a1)] → W p l e rm_R_signed s m args below meth c H locs 0 0 QQ (F0 m 15 ls [.int x2]) := by
    intro H locs ls x2 hk hw hl
    unfold wp_R_signed_j1 at hk
    exact rt_i hQQ hx hb hr hlk hw ⟨rfl, _, rfl, hk⟩ d_R_signed_15
  refine lv_icmp_le (tgt := 14) hx hb d_R_signed_3 (by decide) (fun hc => ?_) (fun hc => ?_)
  · have hk := hk.1 hc
    refine lv_iload_n hx hb d_R_signed_14 rfl (lv_at hl 0 rfl) ?_
    exact hj1 _ _ _ _ hk hw (lv_sub hl [0] rfl)
  · have hk := hk.2 hc
    refine lv_iload_n hx hb d_R_signed_6 rfl (lv_at hl 0 rfl) ?_
    refine lv_sipush (v := 256) hx hb d_R_signed_7 (by decide) ?_
    refine lv_isub hx hb d_R_signed_10 ?_
    refine lv_goto (tgt := 15) hx hb d_R_signed_11 (by decide) ?_
    exact hj1 _ _ _ _ hk hw (lv_sub hl [0] rfl)
set_option maxHeartbeats 4000000 in
set_option maxRecDepth 100000 in
theorem ct_R_pair {l : Launch} {D : va_G} {cA : ClassId} {ad tb : Nat → Nat} (M0 : Mem) (a1 : Int32) (Q : Int32 → Prop) (hk : wp_R_pair M0 a1 Q) : Ct l y_R_pair ws_R_pair rm_R_pair D (ceR ad cA) cA tb [.ref (ad 0), .int a1] M0 (QIp M0 Q) := by
  refine Ct.of (own := "TileConsoleModel") (cc := b_R_pair) (maxL := 2) (ret := (some .int)) ceR_fix (by decide) rfl rfl (Nat.le_of_ble_eq_true rfl) ?_
  intro p e s m args below meth c A QQ ls H locs hQQ hC hr hlk hw hl
  have hx := hC.1.1
  have hb := hC.1.2.1
  unfold wp_R_pair at hk
  have hl : lv_has ls 2 [(0, .ref (ad 0)), (1, .int a1)] := hl
  refine lv_iload_n hx hb d_R_pair_0 rfl (lv_at hl 1 rfl) ?_
  refine lv_iconst (v := 3) hx hb d_R_pair_1 (by decide) ?_
  have hj1 : ∀ (H : Heap) (locs : List Loc) (ls : Array Slot) (x2 : Int32), wp_R_pair_j1 x2 Q → Wd D (ceR ad cA) A s H locs M0 → lv_has ls 2 [(0, .ref (ad 0)), (1, .int a1)] → W p l e rm_R_pair s m args below meth c H locs 0 0 QQ (F0 m 34 ls [.int x2]) := by
    intro H locs ls x2 hk hw hl
    unfold wp_R_pair_j1 at hk
    exact rt_i hQQ hx hb hr hlk hw ⟨rfl, _, rfl, hk⟩ d_R_pair_34
  refine lv_icmp_ne (tgt := 12) hx hb d_R_pair_2 (by decide) (fun hc => ?_) (fun hc => ?_)
  · have hk := hk.1 hc
    refine lv_aload_n hx hb d_R_pair_12 rfl (lv_at hl 0 rfl) ?_
    refine g_R_r hC hw q_13 d_R_pair_13 ?_
    refine lv_iconst (v := 2) hx hb d_R_pair_16 (by decide) ?_
    refine lv_iload_n hx hb d_R_pair_17 rfl (lv_at hl 1 rfl) ?_
    refine lv_imul hx hb d_R_pair_18 ?_
    obtain ⟨hin, hk⟩ := hk
    refine r_ld_8 hC hw hin rfl d_R_pair_19 ?_
    refine lv_bipush (v := 8) hx hb d_R_pair_20 (by decide) ?_
    refine lv_ishl hx hb d_R_pair_22 ?_
    refine lv_aload_n hx hb d_R_pair_23 rfl (lv_at hl 0 rfl) ?_
    refine g_R_r hC hw q_13 d_R_pair_24 ?_
    refine lv_iconst (v := 2) hx hb d_R_pair_27 (by decide) ?_
    refine lv_iload_n hx hb d_R_pair_28 rfl (lv_at hl 1 rfl) ?_
    refine lv_imul hx hb d_R_pair_29 ?_
    refine lv_iconst (v := 1) hx hb d_R_pair_30 (by decide) ?_
    refine lv_iadd hx hb d_R_pair_31 ?_
    obtain ⟨hin, hk⟩ := hk
    refine r_ld_8 hC hw hin rfl d_R_pair_32 ?_
    refine lv_ior hx hb d_R_pair_33 ?_
    exact hj1 _ _ _ _ hk hw (lv_sub hl [0, 1] rfl)
  · have hk := hk.2 hc
    refine lv_aload_n hx hb d_R_pair_5 rfl (lv_at hl 0 rfl) ?_
    refine g_R_sp hC hw q_15 d_R_pair_6 ?_
    refine lv_goto (tgt := 34) hx hb d_R_pair_9 (by decide) ?_
    exact hj1 _ _ _ _ hk hw (lv_sub hl [0, 1] rfl)
set_option maxHeartbeats 4000000 in
set_option maxRecDepth 100000 in
theorem ct_R_setPair {l : Launch} {D : va_G} {cA : ClassId} {ad tb : Nat → Nat} (M0 : Mem) (a1 : Int32) (a2 : Int32) (Q : Mem → Prop) (hk : wp_R_setPair M0 a1 a2 Q) : Ct l y_R_setPair ws_R_setPair rm_R_setPair D (ceR ad cA) cA tb [.ref (ad 0), .int a1, .int a2] M0 (QV Q) := by
  refine Ct.of (own := "TileConsoleModel") (cc := b_R_setPair) (maxL := 3) (ret := none) ceR_fix (by decide) rfl rfl (Nat.le_of_ble_eq_true rfl) ?_
  intro p e s m args below meth c A QQ ls H locs hQQ hC hr hlk hw hl
  have hx := hC.1.1
  have hb := hC.1.2.1
  unfold wp_R_setPair at hk
  have hl : lv_has ls 3 [(0, .ref (ad 0)), (1, .int a1), (2, .int a2)] := hl
  refine lv_iload_n hx hb d_R_setPair_0 rfl (lv_at hl 1 rfl) ?_
  refine lv_iconst (v := 3) hx hb d_R_setPair_1 (by decide) ?_
  have hj1 : ∀ (H : Heap) (locs : List Loc) (ls : Array Slot) (M5 : Mem), wp_R_setPair_j1 M5 Q → Wd D (ceR ad cA) A s H locs M5 → lv_has ls 3 [(0, .ref (ad 0)), (1, .int a1), (2, .int a2)] → W p l e rm_R_setPair s m args below meth c H locs 0 0 QQ (F0 m 47 ls []) := by
    intro H locs ls M5 hk hw hl
    unfold wp_R_setPair_j1 at hk
    exact rt_v hQQ hx hb hr hlk hw ⟨rfl, hk⟩ d_R_setPair_47
  refine lv_icmp_ne (tgt := 16) hx hb d_R_setPair_2 (by decide) (fun hc => ?_) (fun hc => ?_)
  · have hk := hk.1 hc
    refine lv_aload_n hx hb d_R_setPair_16 rfl (lv_at hl 0 rfl) ?_
    refine g_R_r hC hw q_13 d_R_setPair_17 ?_
    refine lv_iconst (v := 2) hx hb d_R_setPair_20 (by decide) ?_
    refine lv_iload_n hx hb d_R_setPair_21 rfl (lv_at hl 1 rfl) ?_
    refine lv_imul hx hb d_R_setPair_22 ?_
    refine lv_iload_n hx hb d_R_setPair_23 rfl (lv_at hl 2 rfl) ?_
    refine lv_bipush (v := 8) hx hb d_R_setPair_24 (by decide) ?_
    refine lv_ishr hx hb d_R_setPair_26 ?_
    refine lv_sipush (v := 255) hx hb d_R_setPair_27 (by decide) ?_
    refine lv_iand hx hb d_R_setPair_30 ?_
    obtain ⟨hin, hk⟩ := hk
    refine r_st_8 hC hw hin rfl d_R_setPair_31 (fun H locs M6 e_M6 hw => ?_)
    have hk := hk M6 e_M6
    refine lv_aload_n hx hb d_R_setPair_32 rfl (lv_at hl 0 rfl) ?_
    refine g_R_r hC hw q_13 d_R_setPair_33 ?_
    refine lv_iconst (v := 2) hx hb d_R_setPair_36 (by decide) ?_
    refine lv_iload_n hx hb d_R_setPair_37 rfl (lv_at hl 1 rfl) ?_
    refine lv_imul hx hb d_R_setPair_38 ?_
    refine lv_iconst (v := 1) hx hb d_R_setPair_39 (by decide) ?_
    refine lv_iadd hx hb d_R_setPair_40 ?_
    refine lv_iload_n hx hb d_R_setPair_41 rfl (lv_at hl 2 rfl) ?_
    refine lv_sipush (v := 255) hx hb d_R_setPair_42 (by decide) ?_
    refine lv_iand hx hb d_R_setPair_45 ?_
    obtain ⟨hin, hk⟩ := hk
    refine r_st_8 hC hw hin rfl d_R_setPair_46 (fun H locs M7 e_M7 hw => ?_)
    have hk := hk M7 e_M7
    exact hj1 _ _ _ _ hk hw (lv_sub hl [0, 1, 2] rfl)
  · have hk := hk.2 hc
    refine lv_aload_n hx hb d_R_setPair_5 rfl (lv_at hl 0 rfl) ?_
    refine lv_iload_n hx hb d_R_setPair_6 rfl (lv_at hl 2 rfl) ?_
    refine lv_ldc (v := (65535 : Int32)) hx hb hC.1.2.2.2.1 (hC.1.2.2.2.2 _ q_59) d_R_setPair_7 ?_
    refine lv_iand hx hb d_R_setPair_9 ?_
    refine p_R_sp hC hw q_15 d_R_setPair_10 (fun H locs M8 e_M8 hw => ?_)
    have hk := hk M8 e_M8
    refine lv_goto (tgt := 47) hx hb d_R_setPair_13 (by decide) ?_
    exact hj1 _ _ _ _ hk hw (lv_sub hl [0, 1, 2] rfl)
set_option maxHeartbeats 4000000 in
set_option maxRecDepth 100000 in
theorem ct_R_operand {l : Launch} {D : va_G} {cA : ClassId} {ad tb : Nat → Nat} (M0 : Mem) (a1 : Int32) (Q : Int32 → Mem → Prop) (hk : wp_R_operand M0 a1 Q) : Ct l y_R_operand ws_R_operand rm_R_operand D (ceR ad cA) cA tb [.ref (ad 0), .int a1] M0 (QI Q) := by
  refine Ct.of (own := "TileConsoleModel") (cc := b_R_operand) (maxL := 2) (ret := (some .int)) ceR_fix (by decide) rfl rfl (Nat.le_of_ble_eq_true rfl) ?_
  intro p e s m args below meth c A QQ ls H locs hQQ hC hr hlk hw hl
  have hx := hC.1.1
  have hb := hC.1.2.1
  unfold wp_R_operand at hk
  have hl : lv_has ls 2 [(0, .ref (ad 0)), (1, .int a1)] := hl
  refine lv_iload_n hx hb d_R_operand_0 rfl (lv_at hl 1 rfl) ?_
  refine lv_bipush (v := 6) hx hb d_R_operand_1 (by decide) ?_
  have hj1 : ∀ (H : Heap) (locs : List Loc) (ls : Array Slot) (x6 : Int32) (M7 : Mem), wp_R_operand_j1 x6 M7 Q → Wd D (ceR ad cA) A s H locs M7 → lv_has ls 2 [(0, .ref (ad 0)), (1, .int a1)] → W p l e rm_R_operand s m args below meth c H locs 0 0 QQ (F0 m 24 ls [.int x6]) := by
    intro H locs ls x6 M7 hk hw hl
    unfold wp_R_operand_j1 at hk
    exact rt_i hQQ hx hb hr hlk hw ⟨_, rfl, hk⟩ d_R_operand_24
  refine lv_icmp_ne (tgt := 18) hx hb d_R_operand_3 (by decide) (fun hc => ?_) (fun hc => ?_)
  · have hk := hk.1 hc
    refine lv_aload_n hx hb d_R_operand_18 rfl (lv_at hl 0 rfl) ?_
    refine g_R_r hC hw q_13 d_R_operand_19 ?_
    refine lv_iload_n hx hb d_R_operand_22 rfl (lv_at hl 1 rfl) ?_
    obtain ⟨hin, hk⟩ := hk
    refine r_ld_8 hC hw hin rfl d_R_operand_23 ?_
    exact hj1 _ _ _ _ _ hk hw (lv_sub hl [0, 1] rfl)
  · have hk := hk.2 hc
    refine lv_aload_n hx hb d_R_operand_6 rfl (lv_at hl 0 rfl) ?_
    refine lv_aload_n hx hb d_R_operand_7 rfl (lv_at hl 0 rfl) ?_
    refine lv_iconst (v := 2) hx hb d_R_operand_8 (by decide) ?_
    refine cl_Vip (j := 0) (As := [.int (2 : Int32)]) hC hw (ct_R_pair _ _ _ hk) q_73 mw_R_pair rfl ⟨rfl, rfl, Nat.le_of_ble_eq_true rfl, Nat.le_of_ble_eq_true rfl⟩ rfl rfl rfl hl.1 rfl (Nat.le_of_ble_eq_true rfl) d_R_operand_9 (fun H locs x8 hk hw => ?_)
    refine cl_Vi (j := 0) (As := [.int x8]) hC hw (ct_R_reads _ _ _ hk) q_71 mw_R_reads rfl ⟨rfl, rfl, Nat.le_of_ble_eq_true rfl, Nat.le_of_ble_eq_true rfl⟩ rfl rfl rfl hl.1 rfl (Nat.le_of_ble_eq_true rfl) d_R_operand_12 (fun H locs x9 M10 hk hw => ?_)
    refine lv_goto (tgt := 24) hx hb d_R_operand_15 (by decide) ?_
    exact hj1 _ _ _ _ _ hk hw (lv_sub hl [0, 1] rfl)
set_option maxHeartbeats 4000000 in
set_option maxRecDepth 100000 in
theorem ct_R_setOperand {l : Launch} {D : va_G} {cA : ClassId} {ad tb : Nat → Nat} (M0 : Mem) (a1 : Int32) (a2 : Int32) (Q : Mem → Prop) (hk : wp_R_setOperand M0 a1 a2 Q) : Ct l y_R_setOperand ws_R_setOperand rm_R_setOperand D (ceR ad cA) cA tb [.ref (ad 0), .int a1, .int a2] M0 (QV Q) := by
  refine Ct.of (own := "TileConsoleModel") (cc := b_R_setOperand) (maxL := 3) (ret := none) ceR_fix (by decide) rfl rfl (Nat.le_of_ble_eq_true rfl) ?_
  intro p e s m args below meth c A QQ ls H locs hQQ hC hr hlk hw hl
  have hx := hC.1.1
  have hb := hC.1.2.1
  unfold wp_R_setOperand at hk
  have hl : lv_has ls 3 [(0, .ref (ad 0)), (1, .int a1), (2, .int a2)] := hl
  refine lv_iload_n hx hb d_R_setOperand_0 rfl (lv_at hl 1 rfl) ?_
  refine lv_bipush (v := 6) hx hb d_R_setOperand_1 (by decide) ?_
  have hj1 : ∀ (H : Heap) (locs : List Loc) (ls : Array Slot) (M5 : Mem), wp_R_setOperand_j1 M5 Q → Wd D (ceR ad cA) A s H locs M5 → lv_has ls 3 [(0, .ref (ad 0)), (1, .int a1), (2, .int a2)] → W p l e rm_R_setOperand s m args below meth c H locs 0 0 QQ (F0 m 30 ls []) := by
    intro H locs ls M5 hk hw hl
    unfold wp_R_setOperand_j1 at hk
    exact rt_v hQQ hx hb hr hlk hw ⟨rfl, hk⟩ d_R_setOperand_30
  refine lv_icmp_ne (tgt := 19) hx hb d_R_setOperand_3 (by decide) (fun hc => ?_) (fun hc => ?_)
  · have hk := hk.1 hc
    refine lv_aload_n hx hb d_R_setOperand_19 rfl (lv_at hl 0 rfl) ?_
    refine g_R_r hC hw q_13 d_R_setOperand_20 ?_
    refine lv_iload_n hx hb d_R_setOperand_23 rfl (lv_at hl 1 rfl) ?_
    refine lv_iload_n hx hb d_R_setOperand_24 rfl (lv_at hl 2 rfl) ?_
    refine lv_sipush (v := 255) hx hb d_R_setOperand_25 (by decide) ?_
    refine lv_iand hx hb d_R_setOperand_28 ?_
    obtain ⟨hin, hk⟩ := hk
    refine r_st_8 hC hw hin rfl d_R_setOperand_29 (fun H locs M6 e_M6 hw => ?_)
    have hk := hk M6 e_M6
    exact hj1 _ _ _ _ hk hw (lv_sub hl [0, 1, 2] rfl)
  · have hk := hk.2 hc
    refine lv_aload_n hx hb d_R_setOperand_6 rfl (lv_at hl 0 rfl) ?_
    refine lv_aload_n hx hb d_R_setOperand_7 rfl (lv_at hl 0 rfl) ?_
    refine lv_iconst (v := 2) hx hb d_R_setOperand_8 (by decide) ?_
    refine cl_Vip (j := 0) (As := [.int (2 : Int32)]) hC hw (ct_R_pair _ _ _ hk) q_73 mw_R_pair rfl ⟨rfl, rfl, Nat.le_of_ble_eq_true rfl, Nat.le_of_ble_eq_true rfl⟩ rfl rfl rfl hl.1 rfl (Nat.le_of_ble_eq_true rfl) d_R_setOperand_9 (fun H locs x7 hk hw => ?_)
    refine lv_iload_n hx hb d_R_setOperand_12 rfl (lv_at hl 2 rfl) ?_
    refine cl_Vv (j := 0) (As := [.int x7, .int a2]) hC hw (ct_R_writes _ _ _ _ hk) q_74 mw_R_writes rfl ⟨rfl, rfl, Nat.le_of_ble_eq_true rfl, Nat.le_of_ble_eq_true rfl⟩ rfl rfl rfl hl.1 rfl (Nat.le_of_ble_eq_true rfl) d_R_setOperand_13 (fun H locs M8 hk hw => ?_)
    refine lv_goto (tgt := 30) hx hb d_R_setOperand_16 (by decide) ?_
    exact hj1 _ _ _ _ hk hw (lv_sub hl [0, 1, 2] rfl)
set_option maxHeartbeats 4000000 in
set_option maxRecDepth 100000 in
theorem ct_R_push {l : Launch} {D : va_G} {cA : ClassId} {ad tb : Nat → Nat} (M0 : Mem) (a1 : Int32) (Q : Mem → Prop) (hk : wp_R_push M0 a1 Q) : Ct l y_R_push ws_R_push rm_R_push D (ceR ad cA) cA tb [.ref (ad 0), .int a1] M0 (QV Q) := by
  refine Ct.of (own := "TileConsoleModel") (cc := b_R_push) (maxL := 2) (ret := none) ceR_fix (by decide) rfl rfl (Nat.le_of_ble_eq_true rfl) ?_
  intro p e s m args below meth c A QQ ls H locs hQQ hC hr hlk hw hl
  have hx := hC.1.1
  have hb := hC.1.2.1
  unfold wp_R_push at hk
  have hl : lv_has ls 2 [(0, .ref (ad 0)), (1, .int a1)] := hl
  refine lv_aload_n hx hb d_R_push_0 rfl (lv_at hl 0 rfl) ?_
  refine lv_aload_n hx hb d_R_push_1 rfl (lv_at hl 0 rfl) ?_
  refine g_R_sp hC hw q_15 d_R_push_2 ?_
  refine lv_iconst (v := 1) hx hb d_R_push_5 (by decide) ?_
  refine lv_isub hx hb d_R_push_6 ?_
  refine lv_ldc (v := (65535 : Int32)) hx hb hC.1.2.2.2.1 (hC.1.2.2.2.2 _ q_59) d_R_push_7 ?_
  refine lv_iand hx hb d_R_push_9 ?_
  refine p_R_sp hC hw q_15 d_R_push_10 (fun H locs M1 e_M1 hw => ?_)
  have hk := hk M1 e_M1
  refine lv_aload_n hx hb d_R_push_13 rfl (lv_at hl 0 rfl) ?_
  refine lv_aload_n hx hb d_R_push_14 rfl (lv_at hl 0 rfl) ?_
  refine g_R_sp hC hw q_15 d_R_push_15 ?_
  refine lv_iload_n hx hb d_R_push_18 rfl (lv_at hl 1 rfl) ?_
  refine lv_bipush (v := 8) hx hb d_R_push_19 (by decide) ?_
  refine lv_ishr hx hb d_R_push_21 ?_
  refine cl_Vv (j := 0) (As := [.int (M1 0 18), .int (a1 >>> ((8 : Int32) &&& (31 : Int32)))]) hC hw (ct_R_writes _ _ _ _ hk) q_74 mw_R_writes rfl ⟨rfl, rfl, Nat.le_of_ble_eq_true rfl, Nat.le_of_ble_eq_true rfl⟩ rfl rfl rfl hl.1 rfl (Nat.le_of_ble_eq_true rfl) d_R_push_22 (fun H locs M2 hk hw => ?_)
  refine lv_aload_n hx hb d_R_push_25 rfl (lv_at hl 0 rfl) ?_
  refine lv_aload_n hx hb d_R_push_26 rfl (lv_at hl 0 rfl) ?_
  refine g_R_sp hC hw q_15 d_R_push_27 ?_
  refine lv_iconst (v := 1) hx hb d_R_push_30 (by decide) ?_
  refine lv_isub hx hb d_R_push_31 ?_
  refine lv_ldc (v := (65535 : Int32)) hx hb hC.1.2.2.2.1 (hC.1.2.2.2.2 _ q_59) d_R_push_32 ?_
  refine lv_iand hx hb d_R_push_34 ?_
  refine p_R_sp hC hw q_15 d_R_push_35 (fun H locs M3 e_M3 hw => ?_)
  have hk := hk M3 e_M3
  refine lv_aload_n hx hb d_R_push_38 rfl (lv_at hl 0 rfl) ?_
  refine lv_aload_n hx hb d_R_push_39 rfl (lv_at hl 0 rfl) ?_
  refine g_R_sp hC hw q_15 d_R_push_40 ?_
  refine lv_iload_n hx hb d_R_push_43 rfl (lv_at hl 1 rfl) ?_
  refine cl_Vv (j := 0) (As := [.int (M3 0 18), .int a1]) hC hw (ct_R_writes _ _ _ _ hk) q_74 mw_R_writes rfl ⟨rfl, rfl, Nat.le_of_ble_eq_true rfl, Nat.le_of_ble_eq_true rfl⟩ rfl rfl rfl hl.1 rfl (Nat.le_of_ble_eq_true rfl) d_R_push_44 (fun H locs M4 hk hw => ?_)
  exact rt_v hQQ hx hb hr hlk hw ⟨rfl, hk⟩ d_R_push_47
set_option maxHeartbeats 4000000 in
set_option maxRecDepth 100000 in
theorem ct_R_pop {l : Launch} {D : va_G} {cA : ClassId} {ad tb : Nat → Nat} (M0 : Mem) (Q : Int32 → Mem → Prop) (hk : wp_R_pop M0 Q) : Ct l y_R_pop ws_R_pop rm_R_pop D (ceR ad cA) cA tb [.ref (ad 0)] M0 (QI Q) := by
  refine Ct.of (own := "TileConsoleModel") (cc := b_R_pop) (maxL := 3) (ret := (some .int)) ceR_fix (by decide) rfl rfl (Nat.le_of_ble_eq_true rfl) ?_
  intro p e s m args below meth c A QQ ls H locs hQQ hC hr hlk hw hl
  have hx := hC.1.1
  have hb := hC.1.2.1
  unfold wp_R_pop at hk
  have hl : lv_has ls 3 [(0, .ref (ad 0))] := hl
  refine lv_aload_n hx hb d_R_pop_0 rfl (lv_at hl 0 rfl) ?_
  refine lv_aload_n hx hb d_R_pop_1 rfl (lv_at hl 0 rfl) ?_
  refine g_R_sp hC hw q_15 d_R_pop_2 ?_
  refine cl_Vi (j := 0) (As := [.int (M0 0 18)]) hC hw (ct_R_reads _ _ _ hk) q_71 mw_R_reads rfl ⟨rfl, rfl, Nat.le_of_ble_eq_true rfl, Nat.le_of_ble_eq_true rfl⟩ rfl rfl rfl hl.1 rfl (Nat.le_of_ble_eq_true rfl) d_R_pop_5 (fun H locs x1 M2 hk hw => ?_)
  refine lv_istore_n (lv' := [(1, .int x1), (0, .ref (ad 0))]) hx hb d_R_pop_8 rfl hl (by decide) rfl (fun ls hl => ?_)
  refine lv_aload_n hx hb d_R_pop_9 rfl (lv_at hl 1 rfl) ?_
  refine lv_aload_n hx hb d_R_pop_10 rfl (lv_at hl 1 rfl) ?_
  refine g_R_sp hC hw q_15 d_R_pop_11 ?_
  refine lv_iconst (v := 1) hx hb d_R_pop_14 (by decide) ?_
  refine lv_iadd hx hb d_R_pop_15 ?_
  refine lv_ldc (v := (65535 : Int32)) hx hb hC.1.2.2.2.1 (hC.1.2.2.2.2 _ q_59) d_R_pop_16 ?_
  refine lv_iand hx hb d_R_pop_18 ?_
  refine p_R_sp hC hw q_15 d_R_pop_19 (fun H locs M3 e_M3 hw => ?_)
  have hk := hk M3 e_M3
  refine lv_aload_n hx hb d_R_pop_22 rfl (lv_at hl 1 rfl) ?_
  refine lv_aload_n hx hb d_R_pop_23 rfl (lv_at hl 1 rfl) ?_
  refine g_R_sp hC hw q_15 d_R_pop_24 ?_
  refine cl_Vi (j := 0) (As := [.int (M3 0 18)]) hC hw (ct_R_reads _ _ _ hk) q_71 mw_R_reads rfl ⟨rfl, rfl, Nat.le_of_ble_eq_true rfl, Nat.le_of_ble_eq_true rfl⟩ rfl rfl rfl hl.1 rfl (Nat.le_of_ble_eq_true rfl) d_R_pop_27 (fun H locs x4 M5 hk hw => ?_)
  refine lv_istore_n (lv' := [(2, .int x4), (1, .int x1), (0, .ref (ad 0))]) hx hb d_R_pop_30 rfl hl (by decide) rfl (fun ls hl => ?_)
  refine lv_aload_n hx hb d_R_pop_31 rfl (lv_at hl 2 rfl) ?_
  refine lv_aload_n hx hb d_R_pop_32 rfl (lv_at hl 2 rfl) ?_
  refine g_R_sp hC hw q_15 d_R_pop_33 ?_
  refine lv_iconst (v := 1) hx hb d_R_pop_36 (by decide) ?_
  refine lv_iadd hx hb d_R_pop_37 ?_
  refine lv_ldc (v := (65535 : Int32)) hx hb hC.1.2.2.2.1 (hC.1.2.2.2.2 _ q_59) d_R_pop_38 ?_
  refine lv_iand hx hb d_R_pop_40 ?_
  refine p_R_sp hC hw q_15 d_R_pop_41 (fun H locs M6 e_M6 hw => ?_)
  have hk := hk M6 e_M6
  refine lv_iload_n hx hb d_R_pop_44 rfl (lv_at hl 0 rfl) ?_
  refine lv_bipush (v := 8) hx hb d_R_pop_45 (by decide) ?_
  refine lv_ishl hx hb d_R_pop_47 ?_
  refine lv_iload_n hx hb d_R_pop_48 rfl (lv_at hl 1 rfl) ?_
  refine lv_ior hx hb d_R_pop_49 ?_
  exact rt_i hQQ hx hb hr hlk hw ⟨_, rfl, hk⟩ d_R_pop_50
set_option maxHeartbeats 4000000 in
set_option maxRecDepth 100000 in
theorem ct_R_is {l : Launch} {D : va_G} {cA : ClassId} {ad tb : Nat → Nat} (M0 : Mem) (a1 : Int32) (Q : Int32 → Prop) (hk : wp_R_is M0 a1 Q) : Ct l y_R_is ws_R_is rm_R_is D (ceR ad cA) cA tb [.ref (ad 0), .int a1] M0 (QIp M0 Q) := by
  refine Ct.of (own := "TileConsoleModel") (cc := b_R_is) (maxL := 2) (ret := (some .boolean)) ceR_fix (by decide) rfl rfl (Nat.le_of_ble_eq_true rfl) ?_
  intro p e s m args below meth c A QQ ls H locs hQQ hC hr hlk hw hl
  have hx := hC.1.1
  have hb := hC.1.2.1
  unfold wp_R_is at hk
  have hl : lv_has ls 2 [(0, .ref (ad 0)), (1, .int a1)] := hl
  refine lv_aload_n hx hb d_R_is_0 rfl (lv_at hl 0 rfl) ?_
  refine g_R_r hC hw q_13 d_R_is_1 ?_
  refine lv_bipush (v := 6) hx hb d_R_is_4 (by decide) ?_
  refine r_ld_8 (k := 6) hC hw (vin_lit rfl) (by decide) d_R_is_6 ?_
  refine lv_iload_n hx hb d_R_is_7 rfl (lv_at hl 1 rfl) ?_
  refine lv_iand hx hb d_R_is_8 ?_
  have hj1 : ∀ (H : Heap) (locs : List Loc) (ls : Array Slot) (x2 : Int32), wp_R_is_j1 x2 Q → Wd D (ceR ad cA) A s H locs M0 → lv_has ls 2 [(0, .ref (ad 0)), (1, .int a1)] → W p l e rm_R_is s m args below meth c H locs 0 0 QQ (F0 m 17 ls [.int x2]) := by
    intro H locs ls x2 hk hw hl
    unfold wp_R_is_j1 at hk
    obtain ⟨hz, hk⟩ := hk
    exact rt_z hQQ hx hb hr hlk hw hz ⟨rfl, _, rfl, hk⟩ d_R_is_17
  refine lv_if_le (tgt := 16) hx hb d_R_is_9 (by decide) (fun hc => ?_) (fun hc => ?_)
  · have hk := hk.1 hc
    refine lv_iconst (v := 0) hx hb d_R_is_16 (by decide) ?_
    exact hj1 _ _ _ _ hk hw (lv_sub hl [0, 1] rfl)
  · have hk := hk.2 hc
    refine lv_iconst (v := 1) hx hb d_R_is_12 (by decide) ?_
    refine lv_goto (tgt := 17) hx hb d_R_is_13 (by decide) ?_
    exact hj1 _ _ _ _ hk hw (lv_sub hl [0, 1] rfl)
set_option maxHeartbeats 4000000 in
set_option maxRecDepth 100000 in
theorem ct_R_flag {l : Launch} {D : va_G} {cA : ClassId} {ad tb : Nat → Nat} (M0 : Mem) (a1 : Int32) (a2 : Int32) (Q : Mem → Prop) (hk : wp_R_flag M0 a1 a2 Q) : Ct l y_R_flag ws_R_flag rm_R_flag D (ceR ad cA) cA tb [.ref (ad 0), .int a1, .int a2] M0 (QV Q) := by
  refine Ct.of (own := "TileConsoleModel") (cc := b_R_flag) (maxL := 3) (ret := none) ceR_fix (by decide) rfl rfl (Nat.le_of_ble_eq_true rfl) ?_
  intro p e s m args below meth c A QQ ls H locs hQQ hC hr hlk hw hl
  have hx := hC.1.1
  have hb := hC.1.2.1
  unfold wp_R_flag at hk
  have hl : lv_has ls 3 [(0, .ref (ad 0)), (1, .int a1), (2, .int a2)] := hl
  refine lv_aload_n hx hb d_R_flag_0 rfl (lv_at hl 0 rfl) ?_
  refine g_R_r hC hw q_13 d_R_flag_1 ?_
  refine lv_bipush (v := 6) hx hb d_R_flag_4 (by decide) ?_
  refine lv_iload_n hx hb d_R_flag_6 rfl (lv_at hl 2 rfl) ?_
  have hj1 : ∀ (H : Heap) (locs : List Loc) (ls : Array Slot) (x3 : Int32), wp_R_flag_j1 M0 x3 Q → Wd D (ceR ad cA) A s H locs M0 → lv_has ls 3 [(0, .ref (ad 0)), (1, .int a1), (2, .int a2)] → W p l e rm_R_flag s m args below meth c H locs 0 0 QQ (F0 m 33 ls [.int x3, .int (6 : Int32), .ref (ad 8)]) := by
    intro H locs ls x3 hk hw hl
    unfold wp_R_flag_j1 at hk
    refine r_st_8 (k := 6) hC hw (vin_lit rfl) (by decide) d_R_flag_33 (fun H locs M4 e_M4 hw => ?_)
    have hk := hk M4 e_M4
    exact rt_v hQQ hx hb hr hlk hw ⟨rfl, hk⟩ d_R_flag_34
  refine lv_if_eq (tgt := 22) hx hb d_R_flag_7 (by decide) (fun hc => ?_) (fun hc => ?_)
  · have hk := hk.1 hc
    refine lv_aload_n hx hb d_R_flag_22 rfl (lv_at hl 0 rfl) ?_
    refine g_R_r hC hw q_13 d_R_flag_23 ?_
    refine lv_bipush (v := 6) hx hb d_R_flag_26 (by decide) ?_
    refine r_ld_8 (k := 6) hC hw (vin_lit rfl) (by decide) d_R_flag_28 ?_
    refine lv_iload_n hx hb d_R_flag_29 rfl (lv_at hl 1 rfl) ?_
    refine lv_iconst (v := (-1)) hx hb d_R_flag_30 (by decide) ?_
    refine lv_ixor hx hb d_R_flag_31 ?_
    refine lv_iand hx hb d_R_flag_32 ?_
    exact hj1 _ _ _ _ hk hw (lv_sub hl [0, 1, 2] rfl)
  · have hk := hk.2 hc
    refine lv_aload_n hx hb d_R_flag_10 rfl (lv_at hl 0 rfl) ?_
    refine g_R_r hC hw q_13 d_R_flag_11 ?_
    refine lv_bipush (v := 6) hx hb d_R_flag_14 (by decide) ?_
    refine r_ld_8 (k := 6) hC hw (vin_lit rfl) (by decide) d_R_flag_16 ?_
    refine lv_iload_n hx hb d_R_flag_17 rfl (lv_at hl 1 rfl) ?_
    refine lv_ior hx hb d_R_flag_18 ?_
    refine lv_goto (tgt := 33) hx hb d_R_flag_19 (by decide) ?_
    exact hj1 _ _ _ _ hk hw (lv_sub hl [0, 1, 2] rfl)
set_option maxHeartbeats 4000000 in
set_option maxRecDepth 100000 in
theorem ct_R_flagged {l : Launch} {D : va_G} {cA : ClassId} {ad tb : Nat → Nat} (M0 : Mem) (a1 : Int32) (a2 : Int32) (a3 : Int32) (a4 : Int32) (Q : Mem → Prop) (hk : wp_R_flagged M0 a1 a2 a3 a4 Q) : Ct l y_R_flagged ws_R_flagged rm_R_flagged D (ceR ad cA) cA tb [.ref (ad 0), .int a1, .int a2, .int a3, .int a4] M0 (QV Q) := by
  refine Ct.of (own := "TileConsoleModel") (cc := b_R_flagged) (maxL := 5) (ret := none) ceR_fix (by decide) rfl rfl (Nat.le_of_ble_eq_true rfl) ?_
  intro p e s m args below meth c A QQ ls H locs hQQ hC hr hlk hw hl
  have hx := hC.1.1
  have hb := hC.1.2.1
  unfold wp_R_flagged at hk
  have hl : lv_has ls 5 [(0, .ref (ad 0)), (1, .int a1), (2, .int a2), (3, .int a3), (4, .int a4)] := hl
  refine lv_aload_n hx hb d_R_flagged_0 rfl (lv_at hl 0 rfl) ?_
  refine g_R_r hC hw q_13 d_R_flagged_1 ?_
  refine lv_bipush (v := 6) hx hb d_R_flagged_4 (by decide) ?_
  refine lv_iload_n hx hb d_R_flagged_6 rfl (lv_at hl 1 rfl) ?_
  have hj1 : ∀ (H : Heap) (locs : List Loc) (ls : Array Slot) (x24 : Int32), wp_R_flagged_j1 M0 a2 a3 a4 x24 Q → Wd D (ceR ad cA) A s H locs M0 → lv_has ls 5 [(0, .ref (ad 0)), (1, .int a1), (2, .int a2), (3, .int a3), (4, .int a4)] → W p l e rm_R_flagged s m args below meth c H locs 0 0 QQ (F0 m 17 ls [.int x24, .int (6 : Int32), .ref (ad 8)]) := by
    intro H locs ls x24 hk hw hl
    unfold wp_R_flagged_j1 at hk
    refine lv_iload_n hx hb d_R_flagged_17 rfl (lv_at hl 2 rfl) ?_
    have hj2 : ∀ (H : Heap) (locs : List Loc) (ls : Array Slot) (x36 : Int32), wp_R_flagged_j2 M0 a3 a4 x24 x36 Q → Wd D (ceR ad cA) A s H locs M0 → lv_has ls 5 [(0, .ref (ad 0)), (1, .int a1), (2, .int a2), (3, .int a3), (4, .int a4)] → W p l e rm_R_flagged s m args below meth c H locs 0 0 QQ (F0 m 27 ls [.int x36, .int x24, .int (6 : Int32), .ref (ad 8)]) := by
      intro H locs ls x36 hk hw hl
      unfold wp_R_flagged_j2 at hk
      refine lv_ior hx hb d_R_flagged_27 ?_
      refine lv_iload_n hx hb d_R_flagged_28 rfl (lv_at hl 3 rfl) ?_
      have hj3 : ∀ (H : Heap) (locs : List Loc) (ls : Array Slot) (x42 : Int32), wp_R_flagged_j3 M0 a4 x24 x36 x42 Q → Wd D (ceR ad cA) A s H locs M0 → lv_has ls 5 [(0, .ref (ad 0)), (1, .int a1), (2, .int a2), (3, .int a3), (4, .int a4)] → W p l e rm_R_flagged s m args below meth c H locs 0 0 QQ (F0 m 38 ls [.int x42, .int (x24 ||| x36), .int (6 : Int32), .ref (ad 8)]) := by
        intro H locs ls x42 hk hw hl
        unfold wp_R_flagged_j3 at hk
        refine lv_ior hx hb d_R_flagged_38 ?_
        refine lv_iload hx hb d_R_flagged_39 (lv_at hl 4 rfl) ?_
        have hj4 : ∀ (H : Heap) (locs : List Loc) (ls : Array Slot) (x45 : Int32), wp_R_flagged_j4 M0 x24 x36 x42 x45 Q → Wd D (ceR ad cA) A s H locs M0 → lv_has ls 5 [(0, .ref (ad 0)), (1, .int a1), (2, .int a2), (3, .int a3), (4, .int a4)] → W p l e rm_R_flagged s m args below meth c H locs 0 0 QQ (F0 m 50 ls [.int x45, .int ((x24 ||| x36) ||| x42), .int (6 : Int32), .ref (ad 8)]) := by
          intro H locs ls x45 hk hw hl
          unfold wp_R_flagged_j4 at hk
          refine lv_ior hx hb d_R_flagged_50 ?_
          refine r_st_8 (k := 6) hC hw (vin_lit rfl) (by decide) d_R_flagged_51 (fun H locs M46 e_M46 hw => ?_)
          have hk := hk M46 e_M46
          exact rt_v hQQ hx hb hr hlk hw ⟨rfl, hk⟩ d_R_flagged_52
        refine lv_if_eq (tgt := 49) hx hb d_R_flagged_41 (by decide) (fun hc => ?_) (fun hc => ?_)
        · have hk := hk.1 hc
          refine lv_iconst (v := 0) hx hb d_R_flagged_49 (by decide) ?_
          exact hj4 _ _ _ _ hk hw (lv_sub hl [0, 1, 2, 3, 4] rfl)
        · have hk := hk.2 hc
          refine lv_bipush (v := 16) hx hb d_R_flagged_44 (by decide) ?_
          refine lv_goto (tgt := 50) hx hb d_R_flagged_46 (by decide) ?_
          exact hj4 _ _ _ _ hk hw (lv_sub hl [0, 1, 2, 3, 4] rfl)
      refine lv_if_eq (tgt := 37) hx hb d_R_flagged_29 (by decide) (fun hc => ?_) (fun hc => ?_)
      · have hk := hk.1 hc
        refine lv_iconst (v := 0) hx hb d_R_flagged_37 (by decide) ?_
        exact hj3 _ _ _ _ hk hw (lv_sub hl [0, 1, 2, 3, 4] rfl)
      · have hk := hk.2 hc
        refine lv_bipush (v := 32) hx hb d_R_flagged_32 (by decide) ?_
        refine lv_goto (tgt := 38) hx hb d_R_flagged_34 (by decide) ?_
        exact hj3 _ _ _ _ hk hw (lv_sub hl [0, 1, 2, 3, 4] rfl)
    refine lv_if_eq (tgt := 26) hx hb d_R_flagged_18 (by decide) (fun hc => ?_) (fun hc => ?_)
    · have hk := hk.1 hc
      refine lv_iconst (v := 0) hx hb d_R_flagged_26 (by decide) ?_
      exact hj2 _ _ _ _ hk hw (lv_sub hl [0, 1, 2, 3, 4] rfl)
    · have hk := hk.2 hc
      refine lv_bipush (v := 64) hx hb d_R_flagged_21 (by decide) ?_
      refine lv_goto (tgt := 27) hx hb d_R_flagged_23 (by decide) ?_
      exact hj2 _ _ _ _ hk hw (lv_sub hl [0, 1, 2, 3, 4] rfl)
  refine lv_if_eq (tgt := 16) hx hb d_R_flagged_7 (by decide) (fun hc => ?_) (fun hc => ?_)
  · have hk := hk.1 hc
    refine lv_iconst (v := 0) hx hb d_R_flagged_16 (by decide) ?_
    exact hj1 _ _ _ _ hk hw (lv_sub hl [0, 1, 2, 3, 4] rfl)
  · have hk := hk.2 hc
    refine lv_sipush (v := 128) hx hb d_R_flagged_10 (by decide) ?_
    refine lv_goto (tgt := 17) hx hb d_R_flagged_13 (by decide) ?_
    exact hj1 _ _ _ _ hk hw (lv_sub hl [0, 1, 2, 3, 4] rfl)
set_option maxHeartbeats 4000000 in
set_option maxRecDepth 100000 in
theorem ct_R_holds {l : Launch} {D : va_G} {cA : ClassId} {ad tb : Nat → Nat} (M0 : Mem) (a1 : Int32) (Q : Int32 → Prop) (hk : wp_R_holds M0 a1 Q) : Ct l y_R_holds ws_R_holds rm_R_holds D (ceR ad cA) cA tb [.ref (ad 0), .int a1] M0 (QIp M0 Q) := by
  refine Ct.of (own := "TileConsoleModel") (cc := b_R_holds) (maxL := 2) (ret := (some .boolean)) ceR_fix (by decide) rfl rfl (Nat.le_of_ble_eq_true rfl) ?_
  intro p e s m args below meth c A QQ ls H locs hQQ hC hr hlk hw hl
  have hx := hC.1.1
  have hb := hC.1.2.1
  unfold wp_R_holds at hk
  have hl : lv_has ls 2 [(0, .ref (ad 0)), (1, .int a1)] := hl
  refine lv_aload_n hx hb d_R_holds_0 rfl (lv_at hl 0 rfl) ?_
  refine lv_iload_n hx hb d_R_holds_1 rfl (lv_at hl 1 rfl) ?_
  refine lv_iconst (v := 2) hx hb d_R_holds_2 (by decide) ?_
  have hj1 : ∀ (H : Heap) (locs : List Loc) (ls : Array Slot) (x9 : Int32), wp_R_holds_j1 M0 a1 x9 Q → Wd D (ceR ad cA) A s H locs M0 → lv_has ls 2 [(0, .ref (ad 0)), (1, .int a1)] → W p l e rm_R_holds s m args below meth c H locs 0 0 QQ (F0 m 14 ls [.int x9, .ref (ad 0)]) := by
    intro H locs ls x9 hk hw hl
    unfold wp_R_holds_j1 at hk
    refine cl_Vip (j := 0) (As := [.int x9]) hC hw (ct_R_is _ _ _ hk) q_75 mw_R_is rfl ⟨rfl, rfl, Nat.le_of_ble_eq_true rfl, Nat.le_of_ble_eq_true rfl⟩ rfl rfl rfl hl.1 rfl (Nat.le_of_ble_eq_true rfl) d_R_holds_14 (fun H locs x10 hk hw => ?_)
    refine lv_iload_n hx hb d_R_holds_17 rfl (lv_at hl 1 rfl) ?_
    refine lv_iconst (v := 1) hx hb d_R_holds_18 (by decide) ?_
    refine lv_iand hx hb d_R_holds_19 ?_
    refine lv_iconst (v := 1) hx hb d_R_holds_20 (by decide) ?_
    have hj2 : ∀ (H : Heap) (locs : List Loc) (ls : Array Slot) (x14 : Int32), wp_R_holds_j2 x10 x14 Q → Wd D (ceR ad cA) A s H locs M0 → lv_has ls 2 [(0, .ref (ad 0)), (1, .int a1)] → W p l e rm_R_holds s m args below meth c H locs 0 0 QQ (F0 m 29 ls [.int x14, .int x10]) := by
      intro H locs ls x14 hk hw hl
      unfold wp_R_holds_j2 at hk
      have hj3 : ∀ (H : Heap) (locs : List Loc) (ls : Array Slot) (x16 : Int32), wp_R_holds_j3 x16 Q → Wd D (ceR ad cA) A s H locs M0 → lv_has ls 2 [(0, .ref (ad 0)), (1, .int a1)] → W p l e rm_R_holds s m args below meth c H locs 0 0 QQ (F0 m 37 ls [.int x16]) := by
        intro H locs ls x16 hk hw hl
        unfold wp_R_holds_j3 at hk
        obtain ⟨hz, hk⟩ := hk
        exact rt_z hQQ hx hb hr hlk hw hz ⟨rfl, _, rfl, hk⟩ d_R_holds_37
      refine lv_icmp_ne (tgt := 36) hx hb d_R_holds_29 (by decide) (fun hc => ?_) (fun hc => ?_)
      · have hk := hk.1 hc
        refine lv_iconst (v := 0) hx hb d_R_holds_36 (by decide) ?_
        exact hj3 _ _ _ _ hk hw (lv_sub hl [0, 1] rfl)
      · have hk := hk.2 hc
        refine lv_iconst (v := 1) hx hb d_R_holds_32 (by decide) ?_
        refine lv_goto (tgt := 37) hx hb d_R_holds_33 (by decide) ?_
        exact hj3 _ _ _ _ hk hw (lv_sub hl [0, 1] rfl)
    refine lv_icmp_ne (tgt := 28) hx hb d_R_holds_21 (by decide) (fun hc => ?_) (fun hc => ?_)
    · have hk := hk.1 hc
      refine lv_iconst (v := 0) hx hb d_R_holds_28 (by decide) ?_
      exact hj2 _ _ _ _ hk hw (lv_sub hl [0, 1] rfl)
    · have hk := hk.2 hc
      refine lv_iconst (v := 1) hx hb d_R_holds_24 (by decide) ?_
      refine lv_goto (tgt := 29) hx hb d_R_holds_25 (by decide) ?_
      exact hj2 _ _ _ _ hk hw (lv_sub hl [0, 1] rfl)
  refine lv_icmp_ge (tgt := 12) hx hb d_R_holds_3 (by decide) (fun hc => ?_) (fun hc => ?_)
  · have hk := hk.1 hc
    refine lv_bipush (v := 16) hx hb d_R_holds_12 (by decide) ?_
    exact hj1 _ _ _ _ hk hw (lv_sub hl [0, 1] rfl)
  · have hk := hk.2 hc
    refine lv_sipush (v := 128) hx hb d_R_holds_6 (by decide) ?_
    refine lv_goto (tgt := 14) hx hb d_R_holds_9 (by decide) ?_
    exact hj1 _ _ _ _ hk hw (lv_sub hl [0, 1] rfl)
set_option maxHeartbeats 4000000 in
set_option maxRecDepth 100000 in
theorem ct_R_reckons {l : Launch} {D : va_G} {cA : ClassId} {ad tb : Nat → Nat} (M0 : Mem) (a1 : Int32) (a2 : Int32) (Q : Mem → Prop) (hk : wp_R_reckons M0 a1 a2 Q) : Ct l y_R_reckons ws_R_reckons rm_R_reckons D (ceR ad cA) cA tb [.ref (ad 0), .int a1, .int a2] M0 (QV Q) := by
  refine Ct.of (own := "TileConsoleModel") (cc := b_R_reckons) (maxL := 6) (ret := none) ceR_fix (by decide) rfl rfl (Nat.le_of_ble_eq_true rfl) ?_
  intro p e s m args below meth c A QQ ls H locs hQQ hC hr hlk hw hl
  have hx := hC.1.1
  have hb := hC.1.2.1
  unfold wp_R_reckons at hk
  have hl : lv_has ls 6 [(0, .ref (ad 0)), (1, .int a1), (2, .int a2)] := hl
  refine lv_aload_n hx hb d_R_reckons_0 rfl (lv_at hl 0 rfl) ?_
  refine g_R_r hC hw q_13 d_R_reckons_1 ?_
  refine lv_bipush (v := 7) hx hb d_R_reckons_4 (by decide) ?_
  refine r_ld_8 (k := 7) hC hw (vin_lit rfl) (by decide) d_R_reckons_6 ?_
  refine lv_topi (fun x1 e_x1 => ?_)
  have hk := hk x1 e_x1
  refine lv_istore_n (lv' := [(3, .int x1), (0, .ref (ad 0)), (1, .int a1), (2, .int a2)]) hx hb d_R_reckons_7 rfl hl (by decide) rfl (fun ls hl => ?_)
  refine lv_aload_n hx hb d_R_reckons_8 rfl (lv_at hl 1 rfl) ?_
  refine lv_bipush (v := 16) hx hb d_R_reckons_9 (by decide) ?_
  refine cl_Vip (j := 0) (As := [.int (16 : Int32)]) hC hw (ct_R_is _ _ _ hk) q_75 mw_R_is rfl ⟨rfl, rfl, Nat.le_of_ble_eq_true rfl, Nat.le_of_ble_eq_true rfl⟩ rfl rfl rfl hl.1 rfl (Nat.le_of_ble_eq_true rfl) d_R_reckons_11 (fun H locs x2 hk hw => ?_)
  have hj1 : ∀ (H : Heap) (locs : List Loc) (ls : Array Slot) (x346 : Int32), wp_R_reckons_j1 M0 a1 a2 x1 x346 Q → Wd D (ceR ad cA) A s H locs M0 → lv_has ls 6 [(0, .ref (ad 0)), (1, .int a1), (2, .int a2), (3, .int x1)] → W p l e rm_R_reckons s m args below meth c H locs 0 0 QQ (F0 m 32 ls [.int x346]) := by
    intro H locs ls x346 hk hw hl
    unfold wp_R_reckons_j1 at hk
    refine lv_istore (lv' := [(4, .int x346), (0, .ref (ad 0)), (1, .int a1), (2, .int a2), (3, .int x1)]) hx hb d_R_reckons_32 hl (by decide) rfl (fun ls hl => ?_)
    refine lv_iload_n hx hb d_R_reckons_34 rfl (lv_at hl 2 rfl) ?_
    refine lv_iconst (v := 2) hx hb d_R_reckons_35 (by decide) ?_
    have hj2 : ∀ (H : Heap) (locs : List Loc) (ls : Array Slot) (M518 : Mem), wp_R_reckons_j2 M518 Q → Wd D (ceR ad cA) A s H locs M518 → lv_has ls 6 [(0, .ref (ad 0)), (1, .int a1), (2, .int a2), (3, .int x1), (4, .int x346)] → W p l e rm_R_reckons s m args below meth c H locs 0 0 QQ (F0 m 276 ls []) := by
      intro H locs ls M518 hk hw hl
      unfold wp_R_reckons_j2 at hk
      exact rt_v hQQ hx hb hr hlk hw ⟨rfl, hk⟩ d_R_reckons_276
    refine lv_icmp_ge (tgt := 118) hx hb d_R_reckons_36 (by decide) (fun hc => ?_) (fun hc => ?_)
    · have hk := hk.1 hc
      refine lv_iload_n hx hb d_R_reckons_118 rfl (lv_at hl 2 rfl) ?_
      refine lv_iconst (v := 2) hx hb d_R_reckons_119 (by decide) ?_
      have hj3 : ∀ (H : Heap) (locs : List Loc) (ls : Array Slot), wp_R_reckons_j3 M0 a1 a2 x1 x346 Q → Wd D (ceR ad cA) A s H locs M0 → lv_has ls 6 [(0, .ref (ad 0)), (1, .int a1), (2, .int a2), (3, .int x1), (4, .int x346)] → W p l e rm_R_reckons s m args below meth c H locs 0 0 QQ (F0 m 134 ls []) := by
        intro H locs ls  hk hw hl
        unfold wp_R_reckons_j3 at hk
        refine lv_iload_n hx hb d_R_reckons_134 rfl (lv_at hl 3 rfl) ?_
        refine lv_iload_n hx hb d_R_reckons_135 rfl (lv_at hl 2 rfl) ?_
        refine lv_isub hx hb d_R_reckons_136 ?_
        refine lv_iload hx hb d_R_reckons_137 (lv_at hl 4 rfl) ?_
        refine lv_isub hx hb d_R_reckons_139 ?_
        refine lv_topi (fun x592 e_x592 => ?_)
        have hk := hk x592 e_x592
        refine lv_istore (lv' := [(5, .int x592), (0, .ref (ad 0)), (1, .int a1), (2, .int a2), (3, .int x1), (4, .int x346)]) hx hb d_R_reckons_140 hl (by decide) rfl (fun ls hl => ?_)
        refine lv_iload_n hx hb d_R_reckons_142 rfl (lv_at hl 2 rfl) ?_
        refine lv_bipush (v := 7) hx hb d_R_reckons_143 (by decide) ?_
        have hj4 : ∀ (H : Heap) (locs : List Loc) (ls : Array Slot) (M617 : Mem), wp_R_reckons_j4 a2 x1 x346 x592 M617 Q → Wd D (ceR ad cA) A s H locs M617 → lv_has ls 6 [(0, .ref (ad 0)), (1, .int a1), (2, .int a2), (3, .int x1), (4, .int x346), (5, .int x592)] → W p l e rm_R_reckons s m args below meth c H locs 0 0 QQ (F0 m 161 ls []) := by
          intro H locs ls M617 hk hw hl
          unfold wp_R_reckons_j4 at hk
          refine lv_aload_n hx hb d_R_reckons_161 rfl (lv_at hl 0 rfl) ?_
          refine lv_iload hx hb d_R_reckons_162 (lv_at hl 5 rfl) ?_
          refine lv_sipush (v := 255) hx hb d_R_reckons_164 (by decide) ?_
          refine lv_iand hx hb d_R_reckons_167 ?_
          have hj5 : ∀ (H : Heap) (locs : List Loc) (ls : Array Slot) (x629 : Int32), wp_R_reckons_j5 a2 x1 x346 x592 M617 x629 Q → Wd D (ceR ad cA) A s H locs M617 → lv_has ls 6 [(0, .ref (ad 0)), (1, .int a1), (2, .int a2), (3, .int x1), (4, .int x346), (5, .int x592)] → W p l e rm_R_reckons s m args below meth c H locs 0 0 QQ (F0 m 176 ls [.int x629, .ref (ad 0)]) := by
            intro H locs ls x629 hk hw hl
            unfold wp_R_reckons_j5 at hk
            refine lv_iconst (v := 1) hx hb d_R_reckons_176 (by decide) ?_
            refine lv_iload_n hx hb d_R_reckons_177 rfl (lv_at hl 3 rfl) ?_
            refine lv_bipush (v := 15) hx hb d_R_reckons_178 (by decide) ?_
            refine lv_iand hx hb d_R_reckons_180 ?_
            refine lv_iload_n hx hb d_R_reckons_181 rfl (lv_at hl 2 rfl) ?_
            refine lv_bipush (v := 15) hx hb d_R_reckons_182 (by decide) ?_
            refine lv_iand hx hb d_R_reckons_184 ?_
            refine lv_isub hx hb d_R_reckons_185 ?_
            refine lv_iload hx hb d_R_reckons_186 (lv_at hl 4 rfl) ?_
            refine lv_isub hx hb d_R_reckons_188 ?_
            have hj6 : ∀ (H : Heap) (locs : List Loc) (ls : Array Slot) (x635 : Int32), wp_R_reckons_j6 x592 M617 x629 x635 Q → Wd D (ceR ad cA) A s H locs M617 → lv_has ls 6 [(0, .ref (ad 0)), (1, .int a1), (2, .int a2), (3, .int x1), (4, .int x346), (5, .int x592)] → W p l e rm_R_reckons s m args below meth c H locs 0 0 QQ (F0 m 197 ls [.int x635, .int (1 : Int32), .int x629, .ref (ad 0)]) := by
              intro H locs ls x635 hk hw hl
              unfold wp_R_reckons_j6 at hk
              refine lv_iload hx hb d_R_reckons_197 (lv_at hl 5 rfl) ?_
              have hj7 : ∀ (H : Heap) (locs : List Loc) (ls : Array Slot) (x638 : Int32), wp_R_reckons_j7 M617 x629 x635 x638 Q → Wd D (ceR ad cA) A s H locs M617 → lv_has ls 6 [(0, .ref (ad 0)), (1, .int a1), (2, .int a2), (3, .int x1), (4, .int x346), (5, .int x592)] → W p l e rm_R_reckons s m args below meth c H locs 0 0 QQ (F0 m 207 ls [.int x638, .int x635, .int (1 : Int32), .int x629, .ref (ad 0)]) := by
                intro H locs ls x638 hk hw hl
                unfold wp_R_reckons_j7 at hk
                refine cl_Vv (j := 0) (As := [.int x629, .int (1 : Int32), .int x635, .int x638]) hC hw (ct_R_flagged _ _ _ _ _ _ hk) q_76 mw_R_flagged rfl ⟨rfl, rfl, Nat.le_of_ble_eq_true rfl, Nat.le_of_ble_eq_true rfl⟩ rfl rfl rfl hl.1 rfl (Nat.le_of_ble_eq_true rfl) d_R_reckons_207 (fun H locs M639 hk hw => ?_)
                refine lv_goto (tgt := 276) hx hb d_R_reckons_210 (by decide) ?_
                exact hj2 _ _ _ _ hk hw (lv_sub hl [0, 1, 2, 3, 4] rfl)
              refine lv_if_ge (tgt := 206) hx hb d_R_reckons_199 (by decide) (fun hc => ?_) (fun hc => ?_)
              · have hk := hk.1 hc
                refine lv_iconst (v := 0) hx hb d_R_reckons_206 (by decide) ?_
                exact hj7 _ _ _ _ hk hw (lv_sub hl [0, 1, 2, 3, 4, 5] rfl)
              · have hk := hk.2 hc
                refine lv_iconst (v := 1) hx hb d_R_reckons_202 (by decide) ?_
                refine lv_goto (tgt := 207) hx hb d_R_reckons_203 (by decide) ?_
                exact hj7 _ _ _ _ hk hw (lv_sub hl [0, 1, 2, 3, 4, 5] rfl)
            refine lv_if_ge (tgt := 196) hx hb d_R_reckons_189 (by decide) (fun hc => ?_) (fun hc => ?_)
            · have hk := hk.1 hc
              refine lv_iconst (v := 0) hx hb d_R_reckons_196 (by decide) ?_
              exact hj6 _ _ _ _ hk hw (lv_sub hl [0, 1, 2, 3, 4, 5] rfl)
            · have hk := hk.2 hc
              refine lv_iconst (v := 1) hx hb d_R_reckons_192 (by decide) ?_
              refine lv_goto (tgt := 197) hx hb d_R_reckons_193 (by decide) ?_
              exact hj6 _ _ _ _ hk hw (lv_sub hl [0, 1, 2, 3, 4, 5] rfl)
          refine lv_if_ne (tgt := 175) hx hb d_R_reckons_168 (by decide) (fun hc => ?_) (fun hc => ?_)
          · have hk := hk.1 hc
            refine lv_iconst (v := 0) hx hb d_R_reckons_175 (by decide) ?_
            exact hj5 _ _ _ _ hk hw (lv_sub hl [0, 1, 2, 3, 4, 5] rfl)
          · have hk := hk.2 hc
            refine lv_iconst (v := 1) hx hb d_R_reckons_171 (by decide) ?_
            refine lv_goto (tgt := 176) hx hb d_R_reckons_172 (by decide) ?_
            exact hj5 _ _ _ _ hk hw (lv_sub hl [0, 1, 2, 3, 4, 5] rfl)
        refine lv_icmp_eq (tgt := 161) hx hb d_R_reckons_145 (by decide) (fun hc => ?_) (fun hc => ?_)
        · have hk := hk.1 hc
          exact hj4 _ _ _ _ hk hw (lv_sub hl [1, 2, 3, 4, 5, 0] rfl)
        · have hk := hk.2 hc
          refine lv_aload_n hx hb d_R_reckons_148 rfl (lv_at hl 1 rfl) ?_
          refine g_R_r hC hw q_13 d_R_reckons_149 ?_
          refine lv_bipush (v := 7) hx hb d_R_reckons_152 (by decide) ?_
          refine lv_iload hx hb d_R_reckons_154 (lv_at hl 0 rfl) ?_
          refine lv_sipush (v := 255) hx hb d_R_reckons_156 (by decide) ?_
          refine lv_iand hx hb d_R_reckons_159 ?_
          refine r_st_8 (k := 7) hC hw (vin_lit rfl) (by decide) d_R_reckons_160 (fun H locs M640 e_M640 hw => ?_)
          have hk := hk M640 e_M640
          exact hj4 _ _ _ _ hk hw (lv_sub hl [1, 2, 3, 4, 5, 0] rfl)
      refine lv_icmp_eq (tgt := 134) hx hb d_R_reckons_120 (by decide) (fun hc => ?_) (fun hc => ?_)
      · have hk := hk.1 hc
        exact hj3 _ _ _  hk hw (lv_sub hl [1, 2, 3, 4, 0] rfl)
      · have hk := hk.2 hc
        refine lv_iload_n hx hb d_R_reckons_123 rfl (lv_at hl 2 rfl) ?_
        refine lv_iconst (v := 3) hx hb d_R_reckons_124 (by decide) ?_
        refine lv_icmp_eq (tgt := 134) hx hb d_R_reckons_125 (by decide) (fun hc => ?_) (fun hc => ?_)
        · have hk := hk.1 hc
          exact hj3 _ _ _  hk hw (lv_sub hl [1, 2, 3, 4, 0] rfl)
        · have hk := hk.2 hc
          refine lv_iload_n hx hb d_R_reckons_128 rfl (lv_at hl 2 rfl) ?_
          refine lv_bipush (v := 7) hx hb d_R_reckons_129 (by decide) ?_
          refine lv_icmp_ne (tgt := 213) hx hb d_R_reckons_131 (by decide) (fun hc => ?_) (fun hc => ?_)
          · have hk := hk.1 hc
            refine lv_aload_n hx hb d_R_reckons_213 rfl (lv_at hl 1 rfl) ?_
            refine g_R_r hC hw q_13 d_R_reckons_214 ?_
            refine lv_bipush (v := 7) hx hb d_R_reckons_217 (by decide) ?_
            refine lv_iload_n hx hb d_R_reckons_219 rfl (lv_at hl 2 rfl) ?_
            refine lv_iconst (v := 4) hx hb d_R_reckons_220 (by decide) ?_
            have hj8 : ∀ (H : Heap) (locs : List Loc) (ls : Array Slot) (x653 : Int32), wp_R_reckons_j8 M0 a1 x653 Q → Wd D (ceR ad cA) A s H locs M0 → lv_has ls 6 [(0, .ref (ad 0)), (1, .int a1), (2, .int a2), (3, .int x1), (4, .int x346)] → W p l e rm_R_reckons s m args below meth c H locs 0 0 QQ (F0 m 244 ls [.int x653, .int (7 : Int32), .ref (ad 8)]) := by
              intro H locs ls x653 hk hw hl
              unfold wp_R_reckons_j8 at hk
              refine r_st_8 (k := 7) hC hw (vin_lit rfl) (by decide) d_R_reckons_244 (fun H locs M654 e_M654 hw => ?_)
              have hk := hk M654 e_M654
              refine lv_aload_n hx hb d_R_reckons_245 rfl (lv_at hl 0 rfl) ?_
              refine lv_aload_n hx hb d_R_reckons_246 rfl (lv_at hl 0 rfl) ?_
              refine g_R_r hC hw q_13 d_R_reckons_247 ?_
              refine lv_bipush (v := 7) hx hb d_R_reckons_250 (by decide) ?_
              refine r_ld_8 (k := 7) hC hw (vin_lit rfl) (by decide) d_R_reckons_252 ?_
              have hj9 : ∀ (H : Heap) (locs : List Loc) (ls : Array Slot) (x660 : Int32), wp_R_reckons_j9 a1 M654 x660 Q → Wd D (ceR ad cA) A s H locs M654 → lv_has ls 6 [(0, .ref (ad 0)), (1, .int a1), (2, .int a2), (3, .int x1), (4, .int x346)] → W p l e rm_R_reckons s m args below meth c H locs 0 0 QQ (F0 m 261 ls [.int x660, .ref (ad 0)]) := by
                intro H locs ls x660 hk hw hl
                unfold wp_R_reckons_j9 at hk
                refine lv_iconst (v := 0) hx hb d_R_reckons_261 (by decide) ?_
                refine lv_iload_n hx hb d_R_reckons_262 rfl (lv_at hl 1 rfl) ?_
                refine lv_iconst (v := 4) hx hb d_R_reckons_263 (by decide) ?_
                have hj10 : ∀ (H : Heap) (locs : List Loc) (ls : Array Slot) (x663 : Int32), wp_R_reckons_j10 M654 x660 x663 Q → Wd D (ceR ad cA) A s H locs M654 → lv_has ls 6 [(0, .ref (ad 0)), (1, .int a1), (2, .int a2), (3, .int x1), (4, .int x346)] → W p l e rm_R_reckons s m args below meth c H locs 0 0 QQ (F0 m 272 ls [.int x663, .int (0 : Int32), .int x660, .ref (ad 0)]) := by
                  intro H locs ls x663 hk hw hl
                  unfold wp_R_reckons_j10 at hk
                  refine lv_iconst (v := 0) hx hb d_R_reckons_272 (by decide) ?_
                  refine cl_Vv (j := 0) (As := [.int x660, .int (0 : Int32), .int x663, .int (0 : Int32)]) hC hw (ct_R_flagged _ _ _ _ _ _ hk) q_76 mw_R_flagged rfl ⟨rfl, rfl, Nat.le_of_ble_eq_true rfl, Nat.le_of_ble_eq_true rfl⟩ rfl rfl rfl hl.1 rfl (Nat.le_of_ble_eq_true rfl) d_R_reckons_273 (fun H locs M664 hk hw => ?_)
                  exact hj2 _ _ _ _ hk hw (lv_sub hl [0, 1, 2, 3, 4] rfl)
                refine lv_icmp_ne (tgt := 271) hx hb d_R_reckons_264 (by decide) (fun hc => ?_) (fun hc => ?_)
                · have hk := hk.1 hc
                  refine lv_iconst (v := 0) hx hb d_R_reckons_271 (by decide) ?_
                  exact hj10 _ _ _ _ hk hw (lv_sub hl [0, 1, 2, 3, 4] rfl)
                · have hk := hk.2 hc
                  refine lv_iconst (v := 1) hx hb d_R_reckons_267 (by decide) ?_
                  refine lv_goto (tgt := 272) hx hb d_R_reckons_268 (by decide) ?_
                  exact hj10 _ _ _ _ hk hw (lv_sub hl [0, 1, 2, 3, 4] rfl)
              refine lv_if_ne (tgt := 260) hx hb d_R_reckons_253 (by decide) (fun hc => ?_) (fun hc => ?_)
              · have hk := hk.1 hc
                refine lv_iconst (v := 0) hx hb d_R_reckons_260 (by decide) ?_
                exact hj9 _ _ _ _ hk hw (lv_sub hl [0, 1, 2, 3, 4] rfl)
              · have hk := hk.2 hc
                refine lv_iconst (v := 1) hx hb d_R_reckons_256 (by decide) ?_
                refine lv_goto (tgt := 261) hx hb d_R_reckons_257 (by decide) ?_
                exact hj9 _ _ _ _ hk hw (lv_sub hl [0, 1, 2, 3, 4] rfl)
            refine lv_icmp_ne (tgt := 230) hx hb d_R_reckons_221 (by decide) (fun hc => ?_) (fun hc => ?_)
            · have hk := hk.1 hc
              refine lv_iload_n hx hb d_R_reckons_230 rfl (lv_at hl 2 rfl) ?_
              refine lv_iconst (v := 5) hx hb d_R_reckons_231 (by decide) ?_
              refine lv_icmp_ne (tgt := 241) hx hb d_R_reckons_232 (by decide) (fun hc => ?_) (fun hc => ?_)
              · have hk := hk.1 hc
                refine lv_iload_n hx hb d_R_reckons_241 rfl (lv_at hl 4 rfl) ?_
                refine lv_iload_n hx hb d_R_reckons_242 rfl (lv_at hl 3 rfl) ?_
                refine lv_ior hx hb d_R_reckons_243 ?_
                exact hj8 _ _ _ _ hk hw (lv_sub hl [1, 2, 3, 4, 0] rfl)
              · have hk := hk.2 hc
                refine lv_iload_n hx hb d_R_reckons_235 rfl (lv_at hl 4 rfl) ?_
                refine lv_iload_n hx hb d_R_reckons_236 rfl (lv_at hl 3 rfl) ?_
                refine lv_ixor hx hb d_R_reckons_237 ?_
                refine lv_goto (tgt := 244) hx hb d_R_reckons_238 (by decide) ?_
                exact hj8 _ _ _ _ hk hw (lv_sub hl [1, 2, 3, 4, 0] rfl)
            · have hk := hk.2 hc
              refine lv_iload_n hx hb d_R_reckons_224 rfl (lv_at hl 4 rfl) ?_
              refine lv_iload_n hx hb d_R_reckons_225 rfl (lv_at hl 3 rfl) ?_
              refine lv_iand hx hb d_R_reckons_226 ?_
              refine lv_goto (tgt := 244) hx hb d_R_reckons_227 (by decide) ?_
              exact hj8 _ _ _ _ hk hw (lv_sub hl [1, 2, 3, 4, 0] rfl)
          · have hk := hk.2 hc
            exact hj3 _ _ _  hk hw (lv_sub hl [1, 2, 3, 4, 0] rfl)
    · have hk := hk.2 hc
      refine lv_iload_n hx hb d_R_reckons_39 rfl (lv_at hl 4 rfl) ?_
      refine lv_iload_n hx hb d_R_reckons_40 rfl (lv_at hl 3 rfl) ?_
      refine lv_iadd hx hb d_R_reckons_41 ?_
      refine lv_iload hx hb d_R_reckons_42 (lv_at hl 0 rfl) ?_
      refine lv_iadd hx hb d_R_reckons_44 ?_
      refine lv_topi (fun x665 e_x665 => ?_)
      have hk := hk x665 e_x665
      refine lv_istore (lv' := [(5, .int x665), (4, .int x346), (0, .ref (ad 0)), (1, .int a1), (2, .int a2), (3, .int x1)]) hx hb d_R_reckons_45 hl (by decide) rfl (fun ls hl => ?_)
      refine lv_aload_n hx hb d_R_reckons_47 rfl (lv_at hl 2 rfl) ?_
      refine g_R_r hC hw q_13 d_R_reckons_48 ?_
      refine lv_bipush (v := 7) hx hb d_R_reckons_51 (by decide) ?_
      refine lv_iload hx hb d_R_reckons_53 (lv_at hl 0 rfl) ?_
      refine lv_sipush (v := 255) hx hb d_R_reckons_55 (by decide) ?_
      refine lv_iand hx hb d_R_reckons_58 ?_
      refine r_st_8 (k := 7) hC hw (vin_lit rfl) (by decide) d_R_reckons_59 (fun H locs M666 e_M666 hw => ?_)
      have hk := hk M666 e_M666
      refine lv_aload_n hx hb d_R_reckons_60 rfl (lv_at hl 2 rfl) ?_
      refine lv_aload_n hx hb d_R_reckons_61 rfl (lv_at hl 2 rfl) ?_
      refine g_R_r hC hw q_13 d_R_reckons_62 ?_
      refine lv_bipush (v := 7) hx hb d_R_reckons_65 (by decide) ?_
      refine r_ld_8 (k := 7) hC hw (vin_lit rfl) (by decide) d_R_reckons_67 ?_
      have hj11 : ∀ (H : Heap) (locs : List Loc) (ls : Array Slot) (x678 : Int32), wp_R_reckons_j11 a2 x1 x346 x665 M666 x678 Q → Wd D (ceR ad cA) A s H locs M666 → lv_has ls 6 [(0, .ref (ad 0)), (1, .int a1), (2, .int a2), (3, .int x1), (4, .int x346), (5, .int x665)] → W p l e rm_R_reckons s m args below meth c H locs 0 0 QQ (F0 m 76 ls [.int x678, .ref (ad 0)]) := by
        intro H locs ls x678 hk hw hl
        unfold wp_R_reckons_j11 at hk
        refine lv_iconst (v := 0) hx hb d_R_reckons_76 (by decide) ?_
        refine lv_iload_n hx hb d_R_reckons_77 rfl (lv_at hl 3 rfl) ?_
        refine lv_bipush (v := 15) hx hb d_R_reckons_78 (by decide) ?_
        refine lv_iand hx hb d_R_reckons_80 ?_
        refine lv_iload_n hx hb d_R_reckons_81 rfl (lv_at hl 2 rfl) ?_
        refine lv_bipush (v := 15) hx hb d_R_reckons_82 (by decide) ?_
        refine lv_iand hx hb d_R_reckons_84 ?_
        refine lv_iadd hx hb d_R_reckons_85 ?_
        refine lv_iload hx hb d_R_reckons_86 (lv_at hl 4 rfl) ?_
        refine lv_iadd hx hb d_R_reckons_88 ?_
        refine lv_bipush (v := 15) hx hb d_R_reckons_89 (by decide) ?_
        have hj12 : ∀ (H : Heap) (locs : List Loc) (ls : Array Slot) (x684 : Int32), wp_R_reckons_j12 x665 M666 x678 x684 Q → Wd D (ceR ad cA) A s H locs M666 → lv_has ls 6 [(0, .ref (ad 0)), (1, .int a1), (2, .int a2), (3, .int x1), (4, .int x346), (5, .int x665)] → W p l e rm_R_reckons s m args below meth c H locs 0 0 QQ (F0 m 99 ls [.int x684, .int (0 : Int32), .int x678, .ref (ad 0)]) := by
          intro H locs ls x684 hk hw hl
          unfold wp_R_reckons_j12 at hk
          refine lv_iload hx hb d_R_reckons_99 (lv_at hl 5 rfl) ?_
          refine lv_sipush (v := 255) hx hb d_R_reckons_101 (by decide) ?_
          have hj13 : ∀ (H : Heap) (locs : List Loc) (ls : Array Slot) (x687 : Int32), wp_R_reckons_j13 M666 x678 x684 x687 Q → Wd D (ceR ad cA) A s H locs M666 → lv_has ls 6 [(0, .ref (ad 0)), (1, .int a1), (2, .int a2), (3, .int x1), (4, .int x346), (5, .int x665)] → W p l e rm_R_reckons s m args below meth c H locs 0 0 QQ (F0 m 112 ls [.int x687, .int x684, .int (0 : Int32), .int x678, .ref (ad 0)]) := by
            intro H locs ls x687 hk hw hl
            unfold wp_R_reckons_j13 at hk
            refine cl_Vv (j := 0) (As := [.int x678, .int (0 : Int32), .int x684, .int x687]) hC hw (ct_R_flagged _ _ _ _ _ _ hk) q_76 mw_R_flagged rfl ⟨rfl, rfl, Nat.le_of_ble_eq_true rfl, Nat.le_of_ble_eq_true rfl⟩ rfl rfl rfl hl.1 rfl (Nat.le_of_ble_eq_true rfl) d_R_reckons_112 (fun H locs M688 hk hw => ?_)
            refine lv_goto (tgt := 276) hx hb d_R_reckons_115 (by decide) ?_
            exact hj2 _ _ _ _ hk hw (lv_sub hl [0, 1, 2, 3, 4] rfl)
          refine lv_icmp_le (tgt := 111) hx hb d_R_reckons_104 (by decide) (fun hc => ?_) (fun hc => ?_)
          · have hk := hk.1 hc
            refine lv_iconst (v := 0) hx hb d_R_reckons_111 (by decide) ?_
            exact hj13 _ _ _ _ hk hw (lv_sub hl [0, 1, 2, 3, 4, 5] rfl)
          · have hk := hk.2 hc
            refine lv_iconst (v := 1) hx hb d_R_reckons_107 (by decide) ?_
            refine lv_goto (tgt := 112) hx hb d_R_reckons_108 (by decide) ?_
            exact hj13 _ _ _ _ hk hw (lv_sub hl [0, 1, 2, 3, 4, 5] rfl)
        refine lv_icmp_le (tgt := 98) hx hb d_R_reckons_91 (by decide) (fun hc => ?_) (fun hc => ?_)
        · have hk := hk.1 hc
          refine lv_iconst (v := 0) hx hb d_R_reckons_98 (by decide) ?_
          exact hj12 _ _ _ _ hk hw (lv_sub hl [0, 1, 2, 3, 4, 5] rfl)
        · have hk := hk.2 hc
          refine lv_iconst (v := 1) hx hb d_R_reckons_94 (by decide) ?_
          refine lv_goto (tgt := 99) hx hb d_R_reckons_95 (by decide) ?_
          exact hj12 _ _ _ _ hk hw (lv_sub hl [0, 1, 2, 3, 4, 5] rfl)
      refine lv_if_ne (tgt := 75) hx hb d_R_reckons_68 (by decide) (fun hc => ?_) (fun hc => ?_)
      · have hk := hk.1 hc
        refine lv_iconst (v := 0) hx hb d_R_reckons_75 (by decide) ?_
        exact hj11 _ _ _ _ hk hw (lv_sub hl [2, 3, 4, 5, 1, 0] rfl)
      · have hk := hk.2 hc
        refine lv_iconst (v := 1) hx hb d_R_reckons_71 (by decide) ?_
        refine lv_goto (tgt := 76) hx hb d_R_reckons_72 (by decide) ?_
        exact hj11 _ _ _ _ hk hw (lv_sub hl [2, 3, 4, 5, 1, 0] rfl)
  have hj14 : ∀ (H : Heap) (locs : List Loc) (ls : Array Slot), wp_R_reckons_j14 M0 a1 a2 x1 Q → Wd D (ceR ad cA) A s H locs M0 → lv_has ls 6 [(0, .ref (ad 0)), (1, .int a1), (2, .int a2), (3, .int x1)] → W p l e rm_R_reckons s m args below meth c H locs 0 0 QQ (F0 m 31 ls []) := by
    intro H locs ls  hk hw hl
    unfold wp_R_reckons_j14 at hk
    refine lv_iconst (v := 0) hx hb d_R_reckons_31 (by decide) ?_
    exact hj1 _ _ _ _ hk hw (lv_sub hl [0, 1, 2, 3] rfl)
  refine lv_if_eq (tgt := 31) hx hb d_R_reckons_14 (by decide) (fun hc => ?_) (fun hc => ?_)
  · have hk := hk.1 hc
    exact hj14 _ _ _  hk hw (lv_sub hl [1, 2, 3, 0] rfl)
  · have hk := hk.2 hc
    refine lv_iload_n hx hb d_R_reckons_17 rfl (lv_at hl 2 rfl) ?_
    refine lv_iconst (v := 1) hx hb d_R_reckons_18 (by decide) ?_
    have hj15 : ∀ (H : Heap) (locs : List Loc) (ls : Array Slot), wp_R_reckons_j15 M0 a1 a2 x1 Q → Wd D (ceR ad cA) A s H locs M0 → lv_has ls 6 [(0, .ref (ad 0)), (1, .int a1), (2, .int a2), (3, .int x1)] → W p l e rm_R_reckons s m args below meth c H locs 0 0 QQ (F0 m 27 ls []) := by
      intro H locs ls  hk hw hl
      unfold wp_R_reckons_j15 at hk
      refine lv_iconst (v := 1) hx hb d_R_reckons_27 (by decide) ?_
      refine lv_goto (tgt := 32) hx hb d_R_reckons_28 (by decide) ?_
      exact hj1 _ _ _ _ hk hw (lv_sub hl [0, 1, 2, 3] rfl)
    refine lv_icmp_eq (tgt := 27) hx hb d_R_reckons_19 (by decide) (fun hc => ?_) (fun hc => ?_)
    · have hk := hk.1 hc
      exact hj15 _ _ _  hk hw (lv_sub hl [1, 2, 3, 0] rfl)
    · have hk := hk.2 hc
      refine lv_iload_n hx hb d_R_reckons_22 rfl (lv_at hl 2 rfl) ?_
      refine lv_iconst (v := 3) hx hb d_R_reckons_23 (by decide) ?_
      refine lv_icmp_ne (tgt := 31) hx hb d_R_reckons_24 (by decide) (fun hc => ?_) (fun hc => ?_)
      · have hk := hk.1 hc
        exact hj14 _ _ _  hk hw (lv_sub hl [1, 2, 3, 0] rfl)
      · have hk := hk.2 hc
        exact hj15 _ _ _  hk hw (lv_sub hl [1, 2, 3, 0] rfl)
set_option maxHeartbeats 4000000 in
set_option maxRecDepth 100000 in
theorem ct_R_turned {l : Launch} {D : va_G} {cA : ClassId} {ad tb : Nat → Nat} (M0 : Mem) (a1 : Int32) (a2 : Int32) (Q : Int32 → Mem → Prop) (hk : wp_R_turned M0 a1 a2 Q) : Ct l y_R_turned ws_R_turned rm_R_turned D (ceR ad cA) cA tb [.ref (ad 0), .int a1, .int a2] M0 (QI Q) := by
  refine Ct.of (own := "TileConsoleModel") (cc := b_R_turned) (maxL := 6) (ret := (some .int)) ceR_fix (by decide) rfl rfl (Nat.le_of_ble_eq_true rfl) ?_
  intro p e s m args below meth c A QQ ls H locs hQQ hC hr hlk hw hl
  have hx := hC.1.1
  have hb := hC.1.2.1
  unfold wp_R_turned at hk
  have hl : lv_has ls 6 [(0, .ref (ad 0)), (1, .int a1), (2, .int a2)] := hl
  refine lv_aload_n hx hb d_R_turned_0 rfl (lv_at hl 0 rfl) ?_
  refine lv_bipush (v := 16) hx hb d_R_turned_1 (by decide) ?_
  refine cl_Vip (j := 0) (As := [.int (16 : Int32)]) hC hw (ct_R_is _ _ _ hk) q_75 mw_R_is rfl ⟨rfl, rfl, Nat.le_of_ble_eq_true rfl, Nat.le_of_ble_eq_true rfl⟩ rfl rfl rfl hl.1 rfl (Nat.le_of_ble_eq_true rfl) d_R_turned_3 (fun H locs x1 hk hw => ?_)
  have hj1 : ∀ (H : Heap) (locs : List Loc) (ls : Array Slot) (x59 : Int32), wp_R_turned_j1 M0 a1 a2 x59 Q → Wd D (ceR ad cA) A s H locs M0 → lv_has ls 6 [(0, .ref (ad 0)), (1, .int a1), (2, .int a2)] → W p l e rm_R_turned s m args below meth c H locs 0 0 QQ (F0 m 14 ls [.int x59]) := by
    intro H locs ls x59 hk hw hl
    unfold wp_R_turned_j1 at hk
    refine lv_istore_n (lv' := [(3, .int x59), (0, .ref (ad 0)), (1, .int a1), (2, .int a2)]) hx hb d_R_turned_14 rfl hl (by decide) rfl (fun ls hl => ?_)
    refine lv_iload_n hx hb d_R_turned_15 rfl (lv_at hl 2 rfl) ?_
    have hj2 : ∀ (H : Heap) (locs : List Loc) (ls : Array Slot) (x88 : Int32) (x89 : Int32), wp_R_turned_j2 M0 x88 x89 Q → Wd D (ceR ad cA) A s H locs M0 → lv_has ls 6 [(0, .ref (ad 0)), (1, .int a1), (2, .int a2), (3, .int x59), (4, .int x88), (5, .int x89)] → W p l e rm_R_turned s m args below meth c H locs 0 0 QQ (F0 m 189 ls []) := by
      intro H locs ls x88 x89 hk hw hl
      unfold wp_R_turned_j2 at hk
      refine lv_iload hx hb d_R_turned_189 (lv_at hl 4 rfl) ?_
      refine lv_sipush (v := 255) hx hb d_R_turned_191 (by decide) ?_
      refine lv_iand hx hb d_R_turned_194 ?_
      refine lv_topi (fun x90 e_x90 => ?_)
      have hk := hk x90 e_x90
      refine lv_istore (lv' := [(4, .int x90), (0, .ref (ad 0)), (1, .int a1), (2, .int a2), (3, .int x59), (5, .int x89)]) hx hb d_R_turned_195 hl (by decide) rfl (fun ls hl => ?_)
      refine lv_aload_n hx hb d_R_turned_197 rfl (lv_at hl 1 rfl) ?_
      refine lv_iload hx hb d_R_turned_198 (lv_at hl 0 rfl) ?_
      have hj3 : ∀ (H : Heap) (locs : List Loc) (ls : Array Slot) (x96 : Int32), wp_R_turned_j3 M0 x89 x90 x96 Q → Wd D (ceR ad cA) A s H locs M0 → lv_has ls 6 [(0, .ref (ad 0)), (1, .int a1), (2, .int a2), (3, .int x59), (4, .int x90), (5, .int x89)] → W p l e rm_R_turned s m args below meth c H locs 0 0 QQ (F0 m 208 ls [.int x96, .ref (ad 0)]) := by
        intro H locs ls x96 hk hw hl
        unfold wp_R_turned_j3 at hk
        refine lv_iconst (v := 0) hx hb d_R_turned_208 (by decide) ?_
        refine lv_iconst (v := 0) hx hb d_R_turned_209 (by decide) ?_
        refine lv_iload hx hb d_R_turned_210 (lv_at hl 5 rfl) ?_
        refine lv_iconst (v := 1) hx hb d_R_turned_212 (by decide) ?_
        have hj4 : ∀ (H : Heap) (locs : List Loc) (ls : Array Slot) (x99 : Int32), wp_R_turned_j4 M0 x90 x96 x99 Q → Wd D (ceR ad cA) A s H locs M0 → lv_has ls 6 [(0, .ref (ad 0)), (1, .int a1), (2, .int a2), (3, .int x59), (4, .int x90), (5, .int x89)] → W p l e rm_R_turned s m args below meth c H locs 0 0 QQ (F0 m 221 ls [.int x99, .int (0 : Int32), .int (0 : Int32), .int x96, .ref (ad 0)]) := by
          intro H locs ls x99 hk hw hl
          unfold wp_R_turned_j4 at hk
          refine cl_Vv (j := 0) (As := [.int x96, .int (0 : Int32), .int (0 : Int32), .int x99]) hC hw (ct_R_flagged _ _ _ _ _ _ hk) q_76 mw_R_flagged rfl ⟨rfl, rfl, Nat.le_of_ble_eq_true rfl, Nat.le_of_ble_eq_true rfl⟩ rfl rfl rfl hl.1 rfl (Nat.le_of_ble_eq_true rfl) d_R_turned_221 (fun H locs M100 hk hw => ?_)
          refine lv_iload hx hb d_R_turned_224 (lv_at hl 4 rfl) ?_
          exact rt_i hQQ hx hb hr hlk hw ⟨_, rfl, hk⟩ d_R_turned_226
        refine lv_icmp_ne (tgt := 220) hx hb d_R_turned_213 (by decide) (fun hc => ?_) (fun hc => ?_)
        · have hk := hk.1 hc
          refine lv_iconst (v := 0) hx hb d_R_turned_220 (by decide) ?_
          exact hj4 _ _ _ _ hk hw (lv_sub hl [0, 1, 2, 3, 4, 5] rfl)
        · have hk := hk.2 hc
          refine lv_iconst (v := 1) hx hb d_R_turned_216 (by decide) ?_
          refine lv_goto (tgt := 221) hx hb d_R_turned_217 (by decide) ?_
          exact hj4 _ _ _ _ hk hw (lv_sub hl [0, 1, 2, 3, 4, 5] rfl)
      refine lv_if_ne (tgt := 207) hx hb d_R_turned_200 (by decide) (fun hc => ?_) (fun hc => ?_)
      · have hk := hk.1 hc
        refine lv_iconst (v := 0) hx hb d_R_turned_207 (by decide) ?_
        exact hj3 _ _ _ _ hk hw (lv_sub hl [1, 2, 3, 4, 0, 5] rfl)
      · have hk := hk.2 hc
        refine lv_iconst (v := 1) hx hb d_R_turned_203 (by decide) ?_
        refine lv_goto (tgt := 208) hx hb d_R_turned_204 (by decide) ?_
        exact hj3 _ _ _ _ hk hw (lv_sub hl [1, 2, 3, 4, 0, 5] rfl)
    by_cases hs8 : (a1 = (0 : Int32))
    · have hk := hk.1 hs8
      refine lv_tableIn (x := a1) (off := 44) (tgt := 60) hx hb d_R_turned_16 (by rw [hs8]; decide) (by rw [hs8]; decide) (by rw [hs8]; decide) (by decide) ?_
      refine lv_iload_n hx hb d_R_turned_60 rfl (lv_at hl 3 rfl) ?_
      refine lv_iconst (v := 1) hx hb d_R_turned_61 (by decide) ?_
      refine lv_ishl hx hb d_R_turned_62 ?_
      refine lv_iload_n hx hb d_R_turned_63 rfl (lv_at hl 3 rfl) ?_
      refine lv_bipush (v := 7) hx hb d_R_turned_64 (by decide) ?_
      refine lv_ishr hx hb d_R_turned_66 ?_
      refine lv_ior hx hb d_R_turned_67 ?_
      refine lv_topi (fun x101 e_x101 => ?_)
      have hk := hk x101 e_x101
      refine lv_istore (lv' := [(4, .int x101), (3, .int x59), (0, .ref (ad 0)), (1, .int a1), (2, .int a2)]) hx hb d_R_turned_68 hl (by decide) rfl (fun ls hl => ?_)
      refine lv_iload_n hx hb d_R_turned_70 rfl (lv_at hl 4 rfl) ?_
      refine lv_bipush (v := 7) hx hb d_R_turned_71 (by decide) ?_
      refine lv_ishr hx hb d_R_turned_73 ?_
      refine lv_topi (fun x102 e_x102 => ?_)
      have hk := hk x102 e_x102
      refine lv_istore (lv' := [(5, .int x102), (4, .int x101), (3, .int x59), (0, .ref (ad 0)), (1, .int a1), (2, .int a2)]) hx hb d_R_turned_74 hl (by decide) rfl (fun ls hl => ?_)
      refine lv_goto (tgt := 189) hx hb d_R_turned_76 (by decide) ?_
      exact hj2 _ _ _ _ _ hk hw (lv_sub hl [3, 4, 5, 2, 1, 0] rfl)
    · have hk := hk.2 hs8
      by_cases hs9 : (a1 = (1 : Int32))
      · have hk := hk.1 hs9
        refine lv_tableIn (x := a1) (off := 63) (tgt := 79) hx hb d_R_turned_16 (by rw [hs9]; decide) (by rw [hs9]; decide) (by rw [hs9]; decide) (by decide) ?_
        refine lv_iload_n hx hb d_R_turned_79 rfl (lv_at hl 3 rfl) ?_
        refine lv_iconst (v := 1) hx hb d_R_turned_80 (by decide) ?_
        refine lv_ishr hx hb d_R_turned_81 ?_
        refine lv_iload_n hx hb d_R_turned_82 rfl (lv_at hl 3 rfl) ?_
        refine lv_bipush (v := 7) hx hb d_R_turned_83 (by decide) ?_
        refine lv_ishl hx hb d_R_turned_85 ?_
        refine lv_ior hx hb d_R_turned_86 ?_
        refine lv_topi (fun x103 e_x103 => ?_)
        have hk := hk x103 e_x103
        refine lv_istore (lv' := [(4, .int x103), (3, .int x59), (0, .ref (ad 0)), (1, .int a1), (2, .int a2)]) hx hb d_R_turned_87 hl (by decide) rfl (fun ls hl => ?_)
        refine lv_iload_n hx hb d_R_turned_89 rfl (lv_at hl 4 rfl) ?_
        refine lv_iconst (v := 1) hx hb d_R_turned_90 (by decide) ?_
        refine lv_iand hx hb d_R_turned_91 ?_
        refine lv_topi (fun x104 e_x104 => ?_)
        have hk := hk x104 e_x104
        refine lv_istore (lv' := [(5, .int x104), (4, .int x103), (3, .int x59), (0, .ref (ad 0)), (1, .int a1), (2, .int a2)]) hx hb d_R_turned_92 hl (by decide) rfl (fun ls hl => ?_)
        refine lv_goto (tgt := 189) hx hb d_R_turned_94 (by decide) ?_
        exact hj2 _ _ _ _ _ hk hw (lv_sub hl [3, 4, 5, 2, 1, 0] rfl)
      · have hk := hk.2 hs9
        by_cases hs10 : (a1 = (2 : Int32))
        · have hk := hk.1 hs10
          refine lv_tableIn (x := a1) (off := 81) (tgt := 97) hx hb d_R_turned_16 (by rw [hs10]; decide) (by rw [hs10]; decide) (by rw [hs10]; decide) (by decide) ?_
          refine lv_iload_n hx hb d_R_turned_97 rfl (lv_at hl 3 rfl) ?_
          refine lv_iconst (v := 1) hx hb d_R_turned_98 (by decide) ?_
          refine lv_ishl hx hb d_R_turned_99 ?_
          refine lv_iload_n hx hb d_R_turned_100 rfl (lv_at hl 0 rfl) ?_
          refine lv_ior hx hb d_R_turned_101 ?_
          refine lv_topi (fun x105 e_x105 => ?_)
          have hk := hk x105 e_x105
          refine lv_istore (lv' := [(4, .int x105), (3, .int x59), (0, .ref (ad 0)), (1, .int a1), (2, .int a2)]) hx hb d_R_turned_102 hl (by decide) rfl (fun ls hl => ?_)
          refine lv_iload_n hx hb d_R_turned_104 rfl (lv_at hl 4 rfl) ?_
          refine lv_bipush (v := 7) hx hb d_R_turned_105 (by decide) ?_
          refine lv_ishr hx hb d_R_turned_107 ?_
          refine lv_topi (fun x106 e_x106 => ?_)
          have hk := hk x106 e_x106
          refine lv_istore (lv' := [(5, .int x106), (4, .int x105), (3, .int x59), (0, .ref (ad 0)), (1, .int a1), (2, .int a2)]) hx hb d_R_turned_108 hl (by decide) rfl (fun ls hl => ?_)
          refine lv_goto (tgt := 189) hx hb d_R_turned_110 (by decide) ?_
          exact hj2 _ _ _ _ _ hk hw (lv_sub hl [3, 4, 5, 2, 1, 0] rfl)
        · have hk := hk.2 hs10
          by_cases hs11 : (a1 = (3 : Int32))
          · have hk := hk.1 hs11
            refine lv_tableIn (x := a1) (off := 97) (tgt := 113) hx hb d_R_turned_16 (by rw [hs11]; decide) (by rw [hs11]; decide) (by rw [hs11]; decide) (by decide) ?_
            refine lv_iload_n hx hb d_R_turned_113 rfl (lv_at hl 3 rfl) ?_
            refine lv_iconst (v := 1) hx hb d_R_turned_114 (by decide) ?_
            refine lv_ishr hx hb d_R_turned_115 ?_
            refine lv_iload_n hx hb d_R_turned_116 rfl (lv_at hl 0 rfl) ?_
            refine lv_bipush (v := 7) hx hb d_R_turned_117 (by decide) ?_
            refine lv_ishl hx hb d_R_turned_119 ?_
            refine lv_ior hx hb d_R_turned_120 ?_
            refine lv_topi (fun x107 e_x107 => ?_)
            have hk := hk x107 e_x107
            refine lv_istore (lv' := [(4, .int x107), (3, .int x59), (0, .ref (ad 0)), (1, .int a1), (2, .int a2)]) hx hb d_R_turned_121 hl (by decide) rfl (fun ls hl => ?_)
            refine lv_iload_n hx hb d_R_turned_123 rfl (lv_at hl 4 rfl) ?_
            refine lv_iconst (v := 1) hx hb d_R_turned_124 (by decide) ?_
            refine lv_iand hx hb d_R_turned_125 ?_
            refine lv_topi (fun x108 e_x108 => ?_)
            have hk := hk x108 e_x108
            refine lv_istore (lv' := [(5, .int x108), (4, .int x107), (3, .int x59), (0, .ref (ad 0)), (1, .int a1), (2, .int a2)]) hx hb d_R_turned_126 hl (by decide) rfl (fun ls hl => ?_)
            refine lv_goto (tgt := 189) hx hb d_R_turned_128 (by decide) ?_
            exact hj2 _ _ _ _ _ hk hw (lv_sub hl [3, 4, 5, 2, 1, 0] rfl)
          · have hk := hk.2 hs11
            by_cases hs12 : (a1 = (4 : Int32))
            · have hk := hk.1 hs12
              refine lv_tableIn (x := a1) (off := 115) (tgt := 131) hx hb d_R_turned_16 (by rw [hs12]; decide) (by rw [hs12]; decide) (by rw [hs12]; decide) (by decide) ?_
              refine lv_iload_n hx hb d_R_turned_131 rfl (lv_at hl 3 rfl) ?_
              refine lv_iconst (v := 1) hx hb d_R_turned_132 (by decide) ?_
              refine lv_ishl hx hb d_R_turned_133 ?_
              refine lv_topi (fun x109 e_x109 => ?_)
              have hk := hk x109 e_x109
              refine lv_istore (lv' := [(4, .int x109), (3, .int x59), (0, .ref (ad 0)), (1, .int a1), (2, .int a2)]) hx hb d_R_turned_134 hl (by decide) rfl (fun ls hl => ?_)
              refine lv_iload_n hx hb d_R_turned_136 rfl (lv_at hl 4 rfl) ?_
              refine lv_bipush (v := 7) hx hb d_R_turned_137 (by decide) ?_
              refine lv_ishr hx hb d_R_turned_139 ?_
              refine lv_topi (fun x110 e_x110 => ?_)
              have hk := hk x110 e_x110
              refine lv_istore (lv' := [(5, .int x110), (4, .int x109), (3, .int x59), (0, .ref (ad 0)), (1, .int a1), (2, .int a2)]) hx hb d_R_turned_140 hl (by decide) rfl (fun ls hl => ?_)
              refine lv_goto (tgt := 189) hx hb d_R_turned_142 (by decide) ?_
              exact hj2 _ _ _ _ _ hk hw (lv_sub hl [3, 4, 5, 2, 1, 0] rfl)
            · have hk := hk.2 hs12
              by_cases hs13 : (a1 = (5 : Int32))
              · have hk := hk.1 hs13
                refine lv_tableIn (x := a1) (off := 129) (tgt := 145) hx hb d_R_turned_16 (by rw [hs13]; decide) (by rw [hs13]; decide) (by rw [hs13]; decide) (by decide) ?_
                refine lv_iload_n hx hb d_R_turned_145 rfl (lv_at hl 3 rfl) ?_
                refine lv_iconst (v := 1) hx hb d_R_turned_146 (by decide) ?_
                refine lv_ishr hx hb d_R_turned_147 ?_
                refine lv_iload_n hx hb d_R_turned_148 rfl (lv_at hl 3 rfl) ?_
                refine lv_sipush (v := 128) hx hb d_R_turned_149 (by decide) ?_
                refine lv_iand hx hb d_R_turned_152 ?_
                refine lv_ior hx hb d_R_turned_153 ?_
                refine lv_topi (fun x111 e_x111 => ?_)
                have hk := hk x111 e_x111
                refine lv_istore (lv' := [(4, .int x111), (3, .int x59), (0, .ref (ad 0)), (1, .int a1), (2, .int a2)]) hx hb d_R_turned_154 hl (by decide) rfl (fun ls hl => ?_)
                refine lv_iload_n hx hb d_R_turned_156 rfl (lv_at hl 4 rfl) ?_
                refine lv_iconst (v := 1) hx hb d_R_turned_157 (by decide) ?_
                refine lv_iand hx hb d_R_turned_158 ?_
                refine lv_topi (fun x112 e_x112 => ?_)
                have hk := hk x112 e_x112
                refine lv_istore (lv' := [(5, .int x112), (4, .int x111), (3, .int x59), (0, .ref (ad 0)), (1, .int a1), (2, .int a2)]) hx hb d_R_turned_159 hl (by decide) rfl (fun ls hl => ?_)
                refine lv_goto (tgt := 189) hx hb d_R_turned_161 (by decide) ?_
                exact hj2 _ _ _ _ _ hk hw (lv_sub hl [3, 4, 5, 2, 1, 0] rfl)
              · have hk := hk.2 hs13
                by_cases hs14 : (a1 = (6 : Int32))
                · have hk := hk.1 hs14
                  refine lv_tableIn (x := a1) (off := 148) (tgt := 164) hx hb d_R_turned_16 (by rw [hs14]; decide) (by rw [hs14]; decide) (by rw [hs14]; decide) (by decide) ?_
                  refine lv_iload_n hx hb d_R_turned_164 rfl (lv_at hl 3 rfl) ?_
                  refine lv_iconst (v := 4) hx hb d_R_turned_165 (by decide) ?_
                  refine lv_ishl hx hb d_R_turned_166 ?_
                  refine lv_iload_n hx hb d_R_turned_167 rfl (lv_at hl 3 rfl) ?_
                  refine lv_iconst (v := 4) hx hb d_R_turned_168 (by decide) ?_
                  refine lv_ishr hx hb d_R_turned_169 ?_
                  refine lv_ior hx hb d_R_turned_170 ?_
                  refine lv_topi (fun x113 e_x113 => ?_)
                  have hk := hk x113 e_x113
                  refine lv_istore (lv' := [(4, .int x113), (3, .int x59), (0, .ref (ad 0)), (1, .int a1), (2, .int a2)]) hx hb d_R_turned_171 hl (by decide) rfl (fun ls hl => ?_)
                  refine lv_iconst (v := 0) hx hb d_R_turned_173 (by decide) ?_
                  refine lv_istore (lv' := [(5, .int (0 : Int32)), (4, .int x113), (3, .int x59), (0, .ref (ad 0)), (1, .int a1), (2, .int a2)]) hx hb d_R_turned_174 hl (by decide) rfl (fun ls hl => ?_)
                  refine lv_goto (tgt := 189) hx hb d_R_turned_176 (by decide) ?_
                  exact hj2 _ _ _ _ _ hk hw (lv_sub hl [3, 4, 5, 2, 1, 0] rfl)
                · have hk := hk.2 hs14
                  refine lv_tableOut (x := a1) (tgt := 179) hx hb d_R_turned_16 (by have hz := (⟨lv_neT hs8 (show ((0 : Int32)).toInt = 0 by decide), lv_neT hs9 (show ((1 : Int32)).toInt = 1 by decide), lv_neT hs10 (show ((2 : Int32)).toInt = 2 by decide), lv_neT hs11 (show ((3 : Int32)).toInt = 3 by decide), lv_neT hs12 (show ((4 : Int32)).toInt = 4 by decide), lv_neT hs13 (show ((5 : Int32)).toInt = 5 by decide), lv_neT hs14 (show ((6 : Int32)).toInt = 6 by decide)⟩ : ¬ (a1).toInt = 0 ∧ ¬ (a1).toInt = 1 ∧ ¬ (a1).toInt = 2 ∧ ¬ (a1).toInt = 3 ∧ ¬ (a1).toInt = 4 ∧ ¬ (a1).toInt = 5 ∧ ¬ (a1).toInt = 6); omega) (by decide) ?_
                  refine lv_iload_n hx hb d_R_turned_179 rfl (lv_at hl 3 rfl) ?_
                  refine lv_iconst (v := 1) hx hb d_R_turned_180 (by decide) ?_
                  refine lv_ishr hx hb d_R_turned_181 ?_
                  refine lv_topi (fun x114 e_x114 => ?_)
                  have hk := hk x114 e_x114
                  refine lv_istore (lv' := [(4, .int x114), (3, .int x59), (0, .ref (ad 0)), (1, .int a1), (2, .int a2)]) hx hb d_R_turned_182 hl (by decide) rfl (fun ls hl => ?_)
                  refine lv_iload_n hx hb d_R_turned_184 rfl (lv_at hl 4 rfl) ?_
                  refine lv_iconst (v := 1) hx hb d_R_turned_185 (by decide) ?_
                  refine lv_iand hx hb d_R_turned_186 ?_
                  refine lv_topi (fun x115 e_x115 => ?_)
                  have hk := hk x115 e_x115
                  refine lv_istore (lv' := [(5, .int x115), (4, .int x114), (3, .int x59), (0, .ref (ad 0)), (1, .int a1), (2, .int a2)]) hx hb d_R_turned_187 hl (by decide) rfl (fun ls hl => ?_)
                  exact hj2 _ _ _ _ _ hk hw (lv_sub hl [3, 4, 5, 2, 1, 0] rfl)
  refine lv_if_eq (tgt := 13) hx hb d_R_turned_6 (by decide) (fun hc => ?_) (fun hc => ?_)
  · have hk := hk.1 hc
    refine lv_iconst (v := 0) hx hb d_R_turned_13 (by decide) ?_
    exact hj1 _ _ _ _ hk hw (lv_sub hl [0, 1, 2] rfl)
  · have hk := hk.2 hc
    refine lv_iconst (v := 1) hx hb d_R_turned_9 (by decide) ?_
    refine lv_goto (tgt := 14) hx hb d_R_turned_10 (by decide) ?_
    exact hj1 _ _ _ _ hk hw (lv_sub hl [0, 1, 2] rfl)
