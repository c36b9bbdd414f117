set_option maxHeartbeats 4000000 in
set_option maxRecDepth 100000 in
theorem ct_K_settle {l : Launch} {D : va_G} {cA : ClassId} {ad tb : Nat → Nat} (M0 : Mem) (Q : Mem → Prop) (hk : wp_K_settle M0 Q) : Ct l y_K_settle ws_K_settle rm_K_settle D (ceC ad cA) cA tb [.ref (ad 1)] M0 (QV Q) := by
  refine Ct.of (own := "TileConsole$Cartridge") (cc := b_K_settle) (maxL := 1) (ret := none) ceC_fix (by decide) rfl rfl (Nat.le_of_ble_eq_true rfl) ?_
  intro p e s m args below meth c A QQ ls H locs hQQ hC hr hlk hw hl
  have hx := hC.1.1
  have hb := hC.1.2.1
  unfold wp_K_settle at hk
  have hl : lv_has ls 1 [(0, .ref (ad 1))] := hl
  refine lv_aload_n hx hb d_K_settle_0 rfl (lv_at hl 0 rfl) ?_
  refine lv_aload_n hx hb d_K_settle_1 rfl (lv_at hl 0 rfl) ?_
  refine g_K_in hC hw m_0 d_K_settle_2 ?_
  have hj1 : ∀ (H : Heap) (locs : List Loc) (ls : Array Slot) (x8 : Int32), wp_K_settle_j1 M0 x8 Q → Wd D (ceC ad cA) A s H locs M0 → lv_has ls 1 [(0, .ref (ad 1))] → W p l e rm_K_settle s m args below meth c H locs 0 0 QQ (F0 m 27 ls [.int x8, .ref (ad 1)]) := by
    intro H locs ls x8 hk hw hl
    unfold wp_K_settle_j1 at hk
    obtain ⟨hz, hk⟩ := hk
    refine p_K_on hC hw hz m_3 d_K_settle_27 (fun H locs M9 e_M9 hw => ?_)
    have hk := hk M9 e_M9
    refine lv_aload_n hx hb d_K_settle_30 rfl (lv_at hl 0 rfl) ?_
    refine lv_aload_n hx hb d_K_settle_31 rfl (lv_at hl 0 rfl) ?_
    refine g_K_romNumber hC hw m_4 d_K_settle_32 ?_
    refine lv_bipush (v := 7) hx hb d_K_settle_35 (by decide) ?_
    refine lv_iand hx hb d_K_settle_37 ?_
    refine p_K_highBank hC hw m_5 d_K_settle_38 (fun H locs M10 e_M10 hw => ?_)
    have hk := hk M10 e_M10
    refine lv_aload_n hx hb d_K_settle_41 rfl (lv_at hl 0 rfl) ?_
    refine lv_aload_n hx hb d_K_settle_42 rfl (lv_at hl 0 rfl) ?_
    refine g_K_kind hC hw m_1 d_K_settle_43 ?_
    refine lv_iconst (v := 1) hx hb d_K_settle_46 (by decide) ?_
    have hj2 : ∀ (H : Heap) (locs : List Loc) (ls : Array Slot) (x13 : Int32), wp_K_settle_j2 M10 x13 Q → Wd D (ceC ad cA) A s H locs M10 → lv_has ls 1 [(0, .ref (ad 1))] → W p l e rm_K_settle s m args below meth c H locs 0 0 QQ (F0 m 65 ls [.int x13, .ref (ad 1)]) := by
      intro H locs ls x13 hk hw hl
      unfold wp_K_settle_j2 at hk
      refine p_K_ramBank hC hw m_8 d_K_settle_65 (fun H locs M14 e_M14 hw => ?_)
      have hk := hk M14 e_M14
      exact rt_v hQQ hx hb hr hlk hw ⟨rfl, hk⟩ d_K_settle_68
    have hj3 : ∀ (H : Heap) (locs : List Loc) (ls : Array Slot), wp_K_settle_j3 M10 Q → Wd D (ceC ad cA) A s H locs M10 → lv_has ls 1 [(0, .ref (ad 1))] → W p l e rm_K_settle s m args below meth c H locs 0 0 QQ (F0 m 61 ls [.ref (ad 1)]) := by
      intro H locs ls  hk hw hl
      unfold wp_K_settle_j3 at hk
      refine lv_aload_n hx hb d_K_settle_61 rfl (lv_at hl 0 rfl) ?_
      refine g_K_ramNumber hC hw m_7 d_K_settle_62 ?_
      exact hj2 _ _ _ _ hk hw (lv_sub hl [0] rfl)
    refine lv_icmp_ne (tgt := 61) hx hb d_K_settle_47 (by decide) (fun hc => ?_) (fun hc => ?_)
    · have hk := hk.1 hc
      exact hj3 _ _ _  hk hw (lv_sub hl [0] rfl)
    · have hk := hk.2 hc
      refine lv_aload_n hx hb d_K_settle_50 rfl (lv_at hl 0 rfl) ?_
      refine g_K_mode hC hw m_6 d_K_settle_51 ?_
      refine lv_if_ne (tgt := 61) hx hb d_K_settle_54 (by decide) (fun hc => ?_) (fun hc => ?_)
      · have hk := hk.1 hc
        exact hj3 _ _ _  hk hw (lv_sub hl [0] rfl)
      · have hk := hk.2 hc
        refine lv_iconst (v := 0) hx hb d_K_settle_57 (by decide) ?_
        refine lv_goto (tgt := 65) hx hb d_K_settle_58 (by decide) ?_
        exact hj2 _ _ _ _ hk hw (lv_sub hl [0] rfl)
  have hj4 : ∀ (H : Heap) (locs : List Loc) (ls : Array Slot), wp_K_settle_j4 M0 Q → Wd D (ceC ad cA) A s H locs M0 → lv_has ls 1 [(0, .ref (ad 1))] → W p l e rm_K_settle s m args below meth c H locs 0 0 QQ (F0 m 26 ls [.ref (ad 1)]) := by
    intro H locs ls  hk hw hl
    unfold wp_K_settle_j4 at hk
    refine lv_iconst (v := 0) hx hb d_K_settle_26 (by decide) ?_
    exact hj1 _ _ _ _ hk hw (lv_sub hl [0] rfl)
  refine lv_if_eq (tgt := 26) hx hb d_K_settle_5 (by decide) (fun hc => ?_) (fun hc => ?_)
  · have hk := hk.1 hc
    exact hj4 _ _ _  hk hw (lv_sub hl [0] rfl)
  · have hk := hk.2 hc
    refine lv_aload_n hx hb d_K_settle_8 rfl (lv_at hl 0 rfl) ?_
    refine g_K_kind hC hw m_1 d_K_settle_9 ?_
    have hj5 : ∀ (H : Heap) (locs : List Loc) (ls : Array Slot), wp_K_settle_j5 M0 Q → Wd D (ceC ad cA) A s H locs M0 → lv_has ls 1 [(0, .ref (ad 1))] → W p l e rm_K_settle s m args below meth c H locs 0 0 QQ (F0 m 22 ls [.ref (ad 1)]) := by
      intro H locs ls  hk hw hl
      unfold wp_K_settle_j5 at hk
      refine lv_iconst (v := 1) hx hb d_K_settle_22 (by decide) ?_
      refine lv_goto (tgt := 27) hx hb d_K_settle_23 (by decide) ?_
      exact hj1 _ _ _ _ hk hw (lv_sub hl [0] rfl)
    refine lv_if_eq (tgt := 22) hx hb d_K_settle_12 (by decide) (fun hc => ?_) (fun hc => ?_)
    · have hk := hk.1 hc
      exact hj5 _ _ _  hk hw (lv_sub hl [0] rfl)
    · have hk := hk.2 hc
      refine lv_aload_n hx hb d_K_settle_15 rfl (lv_at hl 0 rfl) ?_
      refine g_K_enabled hC hw m_2 d_K_settle_16 ?_
      refine lv_if_eq (tgt := 26) hx hb d_K_settle_19 (by decide) (fun hc => ?_) (fun hc => ?_)
      · have hk := hk.1 hc
        exact hj4 _ _ _  hk hw (lv_sub hl [0] rfl)
      · have hk := hk.2 hc
        exact hj5 _ _ _  hk hw (lv_sub hl [0] rfl)
set_option maxHeartbeats 4000000 in
set_option maxRecDepth 100000 in
theorem ct_K_reset {l : Launch} {D : va_G} {cA : ClassId} {ad tb : Nat → Nat} (M0 : Mem) (Q : Mem → Prop) (hk : wp_K_reset M0 Q) : Ct l y_K_reset ws_K_reset rm_K_reset D (ceC ad cA) cA tb [.ref (ad 1)] M0 (QV Q) := by
  refine Ct.of (own := "TileConsole$Cartridge") (cc := b_K_reset) (maxL := 1) (ret := none) ceC_fix (by decide) rfl rfl (Nat.le_of_ble_eq_true rfl) ?_
  intro p e s m args below meth c A QQ ls H locs hQQ hC hr hlk hw hl
  have hx := hC.1.1
  have hb := hC.1.2.1
  unfold wp_K_reset at hk
  have hl : lv_has ls 1 [(0, .ref (ad 1))] := hl
  refine lv_aload_n hx hb d_K_reset_0 rfl (lv_at hl 0 rfl) ?_
  refine lv_iconst (v := 0) hx hb d_K_reset_1 (by decide) ?_
  refine p_K_enabled hC hw (Or.inl rfl) m_2 d_K_reset_2 (fun H locs M1 e_M1 hw => ?_)
  have hk := hk M1 e_M1
  refine lv_aload_n hx hb d_K_reset_5 rfl (lv_at hl 0 rfl) ?_
  refine lv_iconst (v := 1) hx hb d_K_reset_6 (by decide) ?_
  refine p_K_romNumber hC hw m_4 d_K_reset_7 (fun H locs M2 e_M2 hw => ?_)
  have hk := hk M2 e_M2
  refine lv_aload_n hx hb d_K_reset_10 rfl (lv_at hl 0 rfl) ?_
  refine lv_iconst (v := 0) hx hb d_K_reset_11 (by decide) ?_
  refine p_K_ramNumber hC hw m_7 d_K_reset_12 (fun H locs M3 e_M3 hw => ?_)
  have hk := hk M3 e_M3
  refine lv_aload_n hx hb d_K_reset_15 rfl (lv_at hl 0 rfl) ?_
  refine lv_iconst (v := 0) hx hb d_K_reset_16 (by decide) ?_
  refine p_K_mode hC hw m_6 d_K_reset_17 (fun H locs M4 e_M4 hw => ?_)
  have hk := hk M4 e_M4
  refine lv_aload_n hx hb d_K_reset_20 rfl (lv_at hl 0 rfl) ?_
  refine cl_Vv (j := 1) (As := []) hC hw (ct_K_settle _  _ hk) m_9 mw_K_settle rfl ⟨rfl, rfl, Nat.le_of_ble_eq_true rfl, Nat.le_of_ble_eq_true rfl⟩ rfl rfl rfl hl.1 rfl (Nat.le_of_ble_eq_true rfl) d_K_reset_21 (fun H locs M5 hk hw => ?_)
  exact rt_v hQQ hx hb hr hlk hw ⟨rfl, hk⟩ d_K_reset_24
set_option maxHeartbeats 4000000 in
set_option maxRecDepth 100000 in
theorem ct_P_findState {l : Launch} {D : va_G} {cA : ClassId} {ad tb : Nat → Nat} (M0 : Mem) (Q : Mem → Prop) (hk : wp_P_findState M0 Q) : Ct l y_P_findState ws_P_findState rm_P_findState D (ceC ad cA) cA tb [.ref (ad 2)] M0 (QV Q) := by
  refine Ct.of (own := "TileConsole$Ports") (cc := b_P_findState) (maxL := 1) (ret := none) ceC_fix (by decide) rfl rfl (Nat.le_of_ble_eq_true rfl) ?_
  intro p e s m args below meth c A QQ ls H locs hQQ hC hr hlk hw hl
  have hx := hC.1.1
  have hb := hC.1.2.1
  unfold wp_P_findState at hk
  have hl : lv_has ls 1 [(0, .ref (ad 2))] := hl
  refine lv_aload_n hx hb d_P_findState_0 rfl (lv_at hl 0 rfl) ?_
  refine g_P_octets hC hw m_10 d_P_findState_1 ?_
  refine lv_bipush (v := 64) hx hb d_P_findState_4 (by decide) ?_
  refine ld_8 (k := 64) hC hw (vin_lit rfl) (by decide) d_P_findState_6 ?_
  refine lv_sipush (v := 128) hx hb d_P_findState_7 (by decide) ?_
  refine lv_iand hx hb d_P_findState_10 ?_
  have hj1 : ∀ (H : Heap) (locs : List Loc) (ls : Array Slot) (M10 : Mem), wp_P_findState_j1 M10 Q → Wd D (ceC ad cA) A s H locs M10 → lv_has ls 1 [(0, .ref (ad 2))] → W p l e rm_P_findState s m args below meth c H locs 0 0 QQ (F0 m 81 ls []) := by
    intro H locs ls M10 hk hw hl
    unfold wp_P_findState_j1 at hk
    exact rt_v hQQ hx hb hr hlk hw ⟨rfl, hk⟩ d_P_findState_81
  refine lv_if_ne (tgt := 32) hx hb d_P_findState_11 (by decide) (fun hc => ?_) (fun hc => ?_)
  · have hk := hk.1 hc
    refine lv_aload_n hx hb d_P_findState_32 rfl (lv_at hl 0 rfl) ?_
    refine g_P_ly hC hw m_11 d_P_findState_33 ?_
    refine lv_sipush (v := 144) hx hb d_P_findState_36 (by decide) ?_
    refine lv_icmp_lt (tgt := 50) hx hb d_P_findState_39 (by decide) (fun hc => ?_) (fun hc => ?_)
    · have hk := hk.1 hc
      refine lv_aload_n hx hb d_P_findState_50 rfl (lv_at hl 0 rfl) ?_
      refine lv_aload_n hx hb d_P_findState_51 rfl (lv_at hl 0 rfl) ?_
      refine g_P_dot hC hw m_12 d_P_findState_52 ?_
      refine lv_bipush (v := 20) hx hb d_P_findState_55 (by decide) ?_
      have hj2 : ∀ (H : Heap) (locs : List Loc) (ls : Array Slot) (x13 : Int32), wp_P_findState_j2 M0 x13 Q → Wd D (ceC ad cA) A s H locs M0 → lv_has ls 1 [(0, .ref (ad 2))] → W p l e rm_P_findState s m args below meth c H locs 0 0 QQ (F0 m 78 ls [.int x13, .ref (ad 2)]) := by
        intro H locs ls x13 hk hw hl
        unfold wp_P_findState_j2 at hk
        refine p_P_state hC hw m_13 d_P_findState_78 (fun H locs M14 e_M14 hw => ?_)
        have hk := hk M14 e_M14
        exact hj1 _ _ _ _ hk hw (lv_sub hl [0] rfl)
      refine lv_icmp_ge (tgt := 64) hx hb d_P_findState_57 (by decide) (fun hc => ?_) (fun hc => ?_)
      · have hk := hk.1 hc
        refine lv_aload_n hx hb d_P_findState_64 rfl (lv_at hl 0 rfl) ?_
        refine g_P_dot hC hw m_12 d_P_findState_65 ?_
        refine lv_bipush (v := 63) hx hb d_P_findState_68 (by decide) ?_
        refine lv_icmp_ge (tgt := 77) hx hb d_P_findState_70 (by decide) (fun hc => ?_) (fun hc => ?_)
        · have hk := hk.1 hc
          refine lv_iconst (v := 0) hx hb d_P_findState_77 (by decide) ?_
          exact hj2 _ _ _ _ hk hw (lv_sub hl [0] rfl)
        · have hk := hk.2 hc
          refine lv_iconst (v := 3) hx hb d_P_findState_73 (by decide) ?_
          refine lv_goto (tgt := 78) hx hb d_P_findState_74 (by decide) ?_
          exact hj2 _ _ _ _ hk hw (lv_sub hl [0] rfl)
      · have hk := hk.2 hc
        refine lv_iconst (v := 2) hx hb d_P_findState_60 (by decide) ?_
        refine lv_goto (tgt := 78) hx hb d_P_findState_61 (by decide) ?_
        exact hj2 _ _ _ _ hk hw (lv_sub hl [0] rfl)
    · have hk := hk.2 hc
      refine lv_aload_n hx hb d_P_findState_42 rfl (lv_at hl 0 rfl) ?_
      refine lv_iconst (v := 1) hx hb d_P_findState_43 (by decide) ?_
      refine p_P_state hC hw m_13 d_P_findState_44 (fun H locs M15 e_M15 hw => ?_)
      have hk := hk M15 e_M15
      refine lv_goto (tgt := 81) hx hb d_P_findState_47 (by decide) ?_
      exact hj1 _ _ _ _ hk hw (lv_sub hl [0] rfl)
  · have hk := hk.2 hc
    refine lv_aload_n hx hb d_P_findState_14 rfl (lv_at hl 0 rfl) ?_
    refine lv_iconst (v := 0) hx hb d_P_findState_15 (by decide) ?_
    refine p_P_dot hC hw m_12 d_P_findState_16 (fun H locs M16 e_M16 hw => ?_)
    have hk := hk M16 e_M16
    refine lv_aload_n hx hb d_P_findState_19 rfl (lv_at hl 0 rfl) ?_
    refine lv_iconst (v := 0) hx hb d_P_findState_20 (by decide) ?_
    refine p_P_ly hC hw m_11 d_P_findState_21 (fun H locs M17 e_M17 hw => ?_)
    have hk := hk M17 e_M17
    refine lv_aload_n hx hb d_P_findState_24 rfl (lv_at hl 0 rfl) ?_
    refine lv_iconst (v := 0) hx hb d_P_findState_25 (by decide) ?_
    refine p_P_state hC hw m_13 d_P_findState_26 (fun H locs M18 e_M18 hw => ?_)
    have hk := hk M18 e_M18
    refine lv_goto (tgt := 81) hx hb d_P_findState_29 (by decide) ?_
    exact hj1 _ _ _ _ hk hw (lv_sub hl [0] rfl)
set_option maxHeartbeats 4000000 in
set_option maxRecDepth 100000 in
theorem ct_A_fill8 {l : Launch} {D : va_G} {cA : ClassId} {ad tb : Nat → Nat} (M0 : Mem) (a2 : Int32) (Q : Mem → Prop) (hk : wp_A_fill8 M0 a2 Q) : Ct l y_A_fill ws_A_fill rm_A_fill D (ceC ad cA) cA tb [.ref (ad 8), .int a2] M0 (QV Q) := by
  refine Ct.ofF (own := "java/util/Arrays") (cc := b_A_fill) (maxL := 4) (ret := none) ceC_fix (by decide) rfl rfl (Nat.le_of_ble_eq_true rfl) ?_
  intro p e s m args below meth c A QQ ls H locs hQQ hC hr hlk hw hl
  have hx := hC.1.1
  have hb := hC.1.2.1
  unfold wp_A_fill8 at hk
  have hl : lv_has ls 4 [(0, .ref (ad 8)), (1, .int a2)] := hl
  refine lv_iconst (v := 0) hx hb d_A_fill_0 (by decide) ?_
  refine lv_istore_n (lv' := [(2, .int (0 : Int32)), (0, .ref (ad 8)), (1, .int a2)]) hx hb d_A_fill_1 rfl hl (by decide) rfl (fun ls hl => ?_)
  refine lv_aload_n hx hb d_A_fill_2 rfl (lv_at hl 1 rfl) ?_
  refine al_8 hC hw d_A_fill_3 ?_
  refine lv_istore_n (lv' := [(3, .int (256 : Int32)), (2, .int (0 : Int32)), (0, .ref (ad 8)), (1, .int a2)]) hx hb d_A_fill_4 rfl hl (by decide) rfl (fun ls hl => ?_)
  have hl1 : ∀ (n : Nat) (H : Heap) (locs : List Loc) (ls : Array Slot) (x1 : Int32) (M2 : Mem), wp_A_fill8_l1 a2 Q n x1 M2 → Wd D (ceC ad cA) A s H locs M2 → lv_has ls 4 [(0, .ref (ad 8)), (1, .int a2), (2, .int x1), (3, .int (256 : Int32))] → W p l e rm_A_fill s m args below meth c H locs 0 0 QQ (F0 m 5 ls []) := by
    intro n
    induction n with
    | zero => intro H locs ls x1 M2 hk; exact False.elim hk
    | succ n1 ih1 =>
      intro H locs ls x1 M2 hk hw hl
      refine lv_iload_n hx hb d_A_fill_5 rfl (lv_at hl 2 rfl) ?_
      refine lv_iload_n hx hb d_A_fill_6 rfl (lv_at hl 3 rfl) ?_
      refine lv_icmp_ge (tgt := 20) hx hb d_A_fill_7 (by decide) (fun hc => ?_) (fun hc => ?_)
      · have hk := hk.1 hc
        exact rt_v hQQ hx hb hr hlk hw ⟨rfl, hk⟩ d_A_fill_20
      · have hk := hk.2 hc
        refine lv_aload_n hx hb d_A_fill_10 rfl (lv_at hl 0 rfl) ?_
        refine lv_iload_n hx hb d_A_fill_11 rfl (lv_at hl 2 rfl) ?_
        refine lv_iload_n hx hb d_A_fill_12 rfl (lv_at hl 1 rfl) ?_
        obtain ⟨hin, hk⟩ := hk
        refine st_8 hC hw hin rfl d_A_fill_13 (fun H locs M3 e_M3 hw => ?_)
        have hk := hk M3 e_M3
        obtain ⟨x4, e_x4⟩ : ∃ y : Int32, y = x1 + (1 : Int32) := ⟨_, rfl⟩
        have hk := hk x4 e_x4
        refine lv_iinc (v := x4) (lv' := [(2, .int x4), (0, .ref (ad 8)), (1, .int a2), (3, .int (256 : Int32))]) hx hb d_A_fill_14 hl (k := 2) rfl (by rw [e_x4]; rfl) (by decide) rfl (fun ls hl => ?_)
        refine lv_goto (tgt := 5) hx hb d_A_fill_17 (by decide) ?_
        exact ih1 _ _ _ _ _ hk hw (lv_sub hl [1, 2, 0, 3] rfl)
  obtain ⟨n, hk⟩ := hk
  exact hl1 n _ _ _ _ _ hk hw (lv_sub hl [2, 3, 1, 0] rfl)
set_option maxHeartbeats 4000000 in
set_option maxRecDepth 100000 in
theorem ct_P_reset {l : Launch} {D : va_G} {cA : ClassId} {ad tb : Nat → Nat} (M0 : Mem) (Q : Mem → Prop) (hk : wp_P_reset M0 Q) : Ct l y_P_reset ws_P_reset rm_P_reset D (ceC ad cA) cA tb [.ref (ad 2)] M0 (QV Q) := by
  refine Ct.of (own := "TileConsole$Ports") (cc := b_P_reset) (maxL := 1) (ret := none) ceC_fix (by decide) rfl rfl (Nat.le_of_ble_eq_true rfl) ?_
  intro p e s m args below meth c A QQ ls H locs hQQ hC hr hlk hw hl
  have hx := hC.1.1
  have hb := hC.1.2.1
  unfold wp_P_reset at hk
  have hl : lv_has ls 1 [(0, .ref (ad 2))] := hl
  refine lv_aload_n hx hb d_P_reset_0 rfl (lv_at hl 0 rfl) ?_
  refine g_P_octets hC hw m_10 d_P_reset_1 ?_
  refine lv_iconst (v := 0) hx hb d_P_reset_4 (by decide) ?_
  refine cl_Sv (As := [.ref (ad 8), .int (0 : Int32)]) hC hw (ct_A_fill8 _ _ _ hk) m_14 mw_A_fill rfl ⟨rfl, rfl, Nat.le_of_ble_eq_true rfl, Nat.le_of_ble_eq_true rfl⟩ rfl hl.1 rfl (Nat.le_of_ble_eq_true rfl) d_P_reset_5 (fun H locs M1 hk hw => ?_)
  refine lv_aload_n hx hb d_P_reset_8 rfl (lv_at hl 0 rfl) ?_
  refine g_P_octets hC hw m_10 d_P_reset_9 ?_
  refine lv_bipush (v := 64) hx hb d_P_reset_12 (by decide) ?_
  refine lv_sipush (v := 145) hx hb d_P_reset_14 (by decide) ?_
  refine st_8 (k := 64) hC hw (vin_lit rfl) (by decide) d_P_reset_17 (fun H locs M2 e_M2 hw => ?_)
  have hk := hk M2 e_M2
  refine lv_aload_n hx hb d_P_reset_18 rfl (lv_at hl 0 rfl) ?_
  refine g_P_octets hC hw m_10 d_P_reset_19 ?_
  refine lv_bipush (v := 71) hx hb d_P_reset_22 (by decide) ?_
  refine lv_sipush (v := 252) hx hb d_P_reset_24 (by decide) ?_
  refine st_8 (k := 71) hC hw (vin_lit rfl) (by decide) d_P_reset_27 (fun H locs M3 e_M3 hw => ?_)
  have hk := hk M3 e_M3
  refine lv_aload_n hx hb d_P_reset_28 rfl (lv_at hl 0 rfl) ?_
  refine g_P_octets hC hw m_10 d_P_reset_29 ?_
  refine lv_bipush (v := 15) hx hb d_P_reset_32 (by decide) ?_
  refine lv_iconst (v := 1) hx hb d_P_reset_34 (by decide) ?_
  refine st_8 (k := 15) hC hw (vin_lit rfl) (by decide) d_P_reset_35 (fun H locs M4 e_M4 hw => ?_)
  have hk := hk M4 e_M4
  refine lv_aload_n hx hb d_P_reset_36 rfl (lv_at hl 0 rfl) ?_
  refine lv_iconst (v := 0) hx hb d_P_reset_37 (by decide) ?_
  refine p_P_frames hC hw m_15 d_P_reset_38 (fun H locs M5 e_M5 hw => ?_)
  have hk := hk M5 e_M5
  refine lv_aload_n hx hb d_P_reset_41 rfl (lv_at hl 0 rfl) ?_
  refine lv_iconst (v := 0) hx hb d_P_reset_42 (by decide) ?_
  refine p_P_ticks hC hw m_16 d_P_reset_43 (fun H locs M6 e_M6 hw => ?_)
  have hk := hk M6 e_M6
  refine lv_aload_n hx hb d_P_reset_46 rfl (lv_at hl 0 rfl) ?_
  refine lv_iconst (v := 0) hx hb d_P_reset_47 (by decide) ?_
  refine p_P_dot hC hw m_12 d_P_reset_48 (fun H locs M7 e_M7 hw => ?_)
  have hk := hk M7 e_M7
  refine lv_aload_n hx hb d_P_reset_51 rfl (lv_at hl 0 rfl) ?_
  refine lv_iconst (v := 0) hx hb d_P_reset_52 (by decide) ?_
  refine p_P_ly hC hw m_11 d_P_reset_53 (fun H locs M8 e_M8 hw => ?_)
  have hk := hk M8 e_M8
  refine lv_aload_n hx hb d_P_reset_56 rfl (lv_at hl 0 rfl) ?_
  refine lv_iconst (v := 0) hx hb d_P_reset_57 (by decide) ?_
  refine p_P_signal hC hw (Or.inl rfl) m_17 d_P_reset_58 (fun H locs M9 e_M9 hw => ?_)
  have hk := hk M9 e_M9
  refine lv_aload_n hx hb d_P_reset_61 rfl (lv_at hl 0 rfl) ?_
  refine cl_Vv (j := 2) (As := []) hC hw (ct_P_findState _  _ hk) m_18 mw_P_findState rfl ⟨rfl, rfl, Nat.le_of_ble_eq_true rfl, Nat.le_of_ble_eq_true rfl⟩ rfl rfl rfl hl.1 rfl (Nat.le_of_ble_eq_true rfl) d_P_reset_62 (fun H locs M10 hk hw => ?_)
  exact rt_v hQQ hx hb hr hlk hw ⟨rfl, hk⟩ d_P_reset_65
set_option maxHeartbeats 4000000 in
set_option maxRecDepth 100000 in
theorem ct_A_fill9 {l : Launch} {D : va_G} {cA : ClassId} {ad tb : Nat → Nat} (M0 : Mem) (a2 : Int32) (Q : Mem → Prop) (hk : wp_A_fill9 M0 a2 Q) : Ct l y_A_fill ws_A_fill rm_A_fill D (ceC ad cA) cA tb [.ref (ad 9), .int a2] M0 (QV Q) := by
  refine Ct.ofF (own := "java/util/Arrays") (cc := b_A_fill) (maxL := 4) (ret := none) ceC_fix (by decide) rfl rfl (Nat.le_of_ble_eq_true rfl) ?_
  intro p e s m args below meth c A QQ ls H locs hQQ hC hr hlk hw hl
  have hx := hC.1.1
  have hb := hC.1.2.1
  unfold wp_A_fill9 at hk
  have hl : lv_has ls 4 [(0, .ref (ad 9)), (1, .int a2)] := hl
  refine lv_iconst (v := 0) hx hb d_A_fill_0 (by decide) ?_
  refine lv_istore_n (lv' := [(2, .int (0 : Int32)), (0, .ref (ad 9)), (1, .int a2)]) hx hb d_A_fill_1 rfl hl (by decide) rfl (fun ls hl => ?_)
  refine lv_aload_n hx hb d_A_fill_2 rfl (lv_at hl 1 rfl) ?_
  refine al_9 hC hw d_A_fill_3 ?_
  refine lv_istore_n (lv' := [(3, .int (8192 : Int32)), (2, .int (0 : Int32)), (0, .ref (ad 9)), (1, .int a2)]) hx hb d_A_fill_4 rfl hl (by decide) rfl (fun ls hl => ?_)
  have hl1 : ∀ (n : Nat) (H : Heap) (locs : List Loc) (ls : Array Slot) (x1 : Int32) (M2 : Mem), wp_A_fill9_l1 a2 Q n x1 M2 → Wd D (ceC ad cA) A s H locs M2 → lv_has ls 4 [(0, .ref (ad 9)), (1, .int a2), (2, .int x1), (3, .int (8192 : Int32))] → W p l e rm_A_fill s m args below meth c H locs 0 0 QQ (F0 m 5 ls []) := by
    intro n
    induction n with
    | zero => intro H locs ls x1 M2 hk; exact False.elim hk
    | succ n1 ih1 =>
      intro H locs ls x1 M2 hk hw hl
      refine lv_iload_n hx hb d_A_fill_5 rfl (lv_at hl 2 rfl) ?_
      refine lv_iload_n hx hb d_A_fill_6 rfl (lv_at hl 3 rfl) ?_
      refine lv_icmp_ge (tgt := 20) hx hb d_A_fill_7 (by decide) (fun hc => ?_) (fun hc => ?_)
      · have hk := hk.1 hc
        exact rt_v hQQ hx hb hr hlk hw ⟨rfl, hk⟩ d_A_fill_20
      · have hk := hk.2 hc
        refine lv_aload_n hx hb d_A_fill_10 rfl (lv_at hl 0 rfl) ?_
        refine lv_iload_n hx hb d_A_fill_11 rfl (lv_at hl 2 rfl) ?_
        refine lv_iload_n hx hb d_A_fill_12 rfl (lv_at hl 1 rfl) ?_
        obtain ⟨hin, hk⟩ := hk
        refine st_9 hC hw hin rfl d_A_fill_13 (fun H locs M3 e_M3 hw => ?_)
        have hk := hk M3 e_M3
        obtain ⟨x4, e_x4⟩ : ∃ y : Int32, y = x1 + (1 : Int32) := ⟨_, rfl⟩
        have hk := hk x4 e_x4
        refine lv_iinc (v := x4) (lv' := [(2, .int x4), (0, .ref (ad 9)), (1, .int a2), (3, .int (8192 : Int32))]) hx hb d_A_fill_14 hl (k := 2) rfl (by rw [e_x4]; rfl) (by decide) rfl (fun ls hl => ?_)
        refine lv_goto (tgt := 5) hx hb d_A_fill_17 (by decide) ?_
        exact ih1 _ _ _ _ _ hk hw (lv_sub hl [1, 2, 0, 3] rfl)
  obtain ⟨n, hk⟩ := hk
  exact hl1 n _ _ _ _ _ hk hw (lv_sub hl [2, 3, 1, 0] rfl)
set_option maxHeartbeats 4000000 in
set_option maxRecDepth 100000 in
theorem ct_A_fill10 {l : Launch} {D : va_G} {cA : ClassId} {ad tb : Nat → Nat} (M0 : Mem) (a2 : Int32) (Q : Mem → Prop) (hk : wp_A_fill10 M0 a2 Q) : Ct l y_A_fill ws_A_fill rm_A_fill D (ceC ad cA) cA tb [.ref (ad 10), .int a2] M0 (QV Q) := by
  refine Ct.ofF (own := "java/util/Arrays") (cc := b_A_fill) (maxL := 4) (ret := none) ceC_fix (by decide) rfl rfl (Nat.le_of_ble_eq_true rfl) ?_
  intro p e s m args below meth c A QQ ls H locs hQQ hC hr hlk hw hl
  have hx := hC.1.1
  have hb := hC.1.2.1
  unfold wp_A_fill10 at hk
  have hl : lv_has ls 4 [(0, .ref (ad 10)), (1, .int a2)] := hl
  refine lv_iconst (v := 0) hx hb d_A_fill_0 (by decide) ?_
  refine lv_istore_n (lv' := [(2, .int (0 : Int32)), (0, .ref (ad 10)), (1, .int a2)]) hx hb d_A_fill_1 rfl hl (by decide) rfl (fun ls hl => ?_)
  refine lv_aload_n hx hb d_A_fill_2 rfl (lv_at hl 1 rfl) ?_
  refine al_10 hC hw d_A_fill_3 ?_
  refine lv_istore_n (lv' := [(3, .int (160 : Int32)), (2, .int (0 : Int32)), (0, .ref (ad 10)), (1, .int a2)]) hx hb d_A_fill_4 rfl hl (by decide) rfl (fun ls hl => ?_)
  have hl1 : ∀ (n : Nat) (H : Heap) (locs : List Loc) (ls : Array Slot) (x1 : Int32) (M2 : Mem), wp_A_fill10_l1 a2 Q n x1 M2 → Wd D (ceC ad cA) A s H locs M2 → lv_has ls 4 [(0, .ref (ad 10)), (1, .int a2), (2, .int x1), (3, .int (160 : Int32))] → W p l e rm_A_fill s m args below meth c H locs 0 0 QQ (F0 m 5 ls []) := by
    intro n
    induction n with
    | zero => intro H locs ls x1 M2 hk; exact False.elim hk
    | succ n1 ih1 =>
      intro H locs ls x1 M2 hk hw hl
      refine lv_iload_n hx hb d_A_fill_5 rfl (lv_at hl 2 rfl) ?_
      refine lv_iload_n hx hb d_A_fill_6 rfl (lv_at hl 3 rfl) ?_
      refine lv_icmp_ge (tgt := 20) hx hb d_A_fill_7 (by decide) (fun hc => ?_) (fun hc => ?_)
      · have hk := hk.1 hc
        exact rt_v hQQ hx hb hr hlk hw ⟨rfl, hk⟩ d_A_fill_20
      · have hk := hk.2 hc
        refine lv_aload_n hx hb d_A_fill_10 rfl (lv_at hl 0 rfl) ?_
        refine lv_iload_n hx hb d_A_fill_11 rfl (lv_at hl 2 rfl) ?_
        refine lv_iload_n hx hb d_A_fill_12 rfl (lv_at hl 1 rfl) ?_
        obtain ⟨hin, hk⟩ := hk
        refine st_10 hC hw hin rfl d_A_fill_13 (fun H locs M3 e_M3 hw => ?_)
        have hk := hk M3 e_M3
        obtain ⟨x4, e_x4⟩ : ∃ y : Int32, y = x1 + (1 : Int32) := ⟨_, rfl⟩
        have hk := hk x4 e_x4
        refine lv_iinc (v := x4) (lv' := [(2, .int x4), (0, .ref (ad 10)), (1, .int a2), (3, .int (160 : Int32))]) hx hb d_A_fill_14 hl (k := 2) rfl (by rw [e_x4]; rfl) (by decide) rfl (fun ls hl => ?_)
        refine lv_goto (tgt := 5) hx hb d_A_fill_17 (by decide) ?_
        exact ih1 _ _ _ _ _ hk hw (lv_sub hl [1, 2, 0, 3] rfl)
  obtain ⟨n, hk⟩ := hk
  exact hl1 n _ _ _ _ _ hk hw (lv_sub hl [2, 3, 1, 0] rfl)
set_option maxHeartbeats 4000000 in
set_option maxRecDepth 100000 in
theorem ct_A_fill11 {l : Launch} {D : va_G} {cA : ClassId} {ad tb : Nat → Nat} (M0 : Mem) (a2 : Int32) (Q : Mem → Prop) (hk : wp_A_fill11 M0 a2 Q) : Ct l y_A_fill ws_A_fill rm_A_fill D (ceC ad cA) cA tb [.ref (ad 11), .int a2] M0 (QV Q) := by
  refine Ct.ofF (own := "java/util/Arrays") (cc := b_A_fill) (maxL := 4) (ret := none) ceC_fix (by decide) rfl rfl (Nat.le_of_ble_eq_true rfl) ?_
  intro p e s m args below meth c A QQ ls H locs hQQ hC hr hlk hw hl
  have hx := hC.1.1
  have hb := hC.1.2.1
  unfold wp_A_fill11 at hk
  have hl : lv_has ls 4 [(0, .ref (ad 11)), (1, .int a2)] := hl
  refine lv_iconst (v := 0) hx hb d_A_fill_0 (by decide) ?_
  refine lv_istore_n (lv' := [(2, .int (0 : Int32)), (0, .ref (ad 11)), (1, .int a2)]) hx hb d_A_fill_1 rfl hl (by decide) rfl (fun ls hl => ?_)
  refine lv_aload_n hx hb d_A_fill_2 rfl (lv_at hl 1 rfl) ?_
  refine al_11 hC hw d_A_fill_3 ?_
  refine lv_istore_n (lv' := [(3, .int (1024 : Int32)), (2, .int (0 : Int32)), (0, .ref (ad 11)), (1, .int a2)]) hx hb d_A_fill_4 rfl hl (by decide) rfl (fun ls hl => ?_)
  have hl1 : ∀ (n : Nat) (H : Heap) (locs : List Loc) (ls : Array Slot) (x1 : Int32) (M2 : Mem), wp_A_fill11_l1 a2 Q n x1 M2 → Wd D (ceC ad cA) A s H locs M2 → lv_has ls 4 [(0, .ref (ad 11)), (1, .int a2), (2, .int x1), (3, .int (1024 : Int32))] → W p l e rm_A_fill s m args below meth c H locs 0 0 QQ (F0 m 5 ls []) := by
    intro n
    induction n with
    | zero => intro H locs ls x1 M2 hk; exact False.elim hk
    | succ n1 ih1 =>
      intro H locs ls x1 M2 hk hw hl
      refine lv_iload_n hx hb d_A_fill_5 rfl (lv_at hl 2 rfl) ?_
      refine lv_iload_n hx hb d_A_fill_6 rfl (lv_at hl 3 rfl) ?_
      refine lv_icmp_ge (tgt := 20) hx hb d_A_fill_7 (by decide) (fun hc => ?_) (fun hc => ?_)
      · have hk := hk.1 hc
        exact rt_v hQQ hx hb hr hlk hw ⟨rfl, hk⟩ d_A_fill_20
      · have hk := hk.2 hc
        refine lv_aload_n hx hb d_A_fill_10 rfl (lv_at hl 0 rfl) ?_
        refine lv_iload_n hx hb d_A_fill_11 rfl (lv_at hl 2 rfl) ?_
        refine lv_iload_n hx hb d_A_fill_12 rfl (lv_at hl 1 rfl) ?_
        obtain ⟨hin, hk⟩ := hk
        refine st_11 hC hw hin rfl d_A_fill_13 (fun H locs M3 e_M3 hw => ?_)
        have hk := hk M3 e_M3
        obtain ⟨x4, e_x4⟩ : ∃ y : Int32, y = x1 + (1 : Int32) := ⟨_, rfl⟩
        have hk := hk x4 e_x4
        refine lv_iinc (v := x4) (lv' := [(2, .int x4), (0, .ref (ad 11)), (1, .int a2), (3, .int (1024 : Int32))]) hx hb d_A_fill_14 hl (k := 2) rfl (by rw [e_x4]; rfl) (by decide) rfl (fun ls hl => ?_)
        refine lv_goto (tgt := 5) hx hb d_A_fill_17 (by decide) ?_
        exact ih1 _ _ _ _ _ hk hw (lv_sub hl [1, 2, 0, 3] rfl)
  obtain ⟨n, hk⟩ := hk
  exact hl1 n _ _ _ _ _ hk hw (lv_sub hl [2, 3, 1, 0] rfl)
set_option maxHeartbeats 4000000 in
set_option maxRecDepth 100000 in
theorem ct_A_fill12 {l : Launch} {D : va_G} {cA : ClassId} {ad tb : Nat → Nat} (M0 : Mem) (a2 : Int32) (Q : Mem → Prop) (hk : wp_A_fill12 M0 a2 Q) : Ct l y_A_fill ws_A_fill rm_A_fill D (ceC ad cA) cA tb [.ref (ad 12), .int a2] M0 (QV Q) := by
  refine Ct.ofF (own := "java/util/Arrays") (cc := b_A_fill) (maxL := 4) (ret := none) ceC_fix (by decide) rfl rfl (Nat.le_of_ble_eq_true rfl) ?_
  intro p e s m args below meth c A QQ ls H locs hQQ hC hr hlk hw hl
  have hx := hC.1.1
  have hb := hC.1.2.1
  unfold wp_A_fill12 at hk
  have hl : lv_has ls 4 [(0, .ref (ad 12)), (1, .int a2)] := hl
  refine lv_iconst (v := 0) hx hb d_A_fill_0 (by decide) ?_
  refine lv_istore_n (lv' := [(2, .int (0 : Int32)), (0, .ref (ad 12)), (1, .int a2)]) hx hb d_A_fill_1 rfl hl (by decide) rfl (fun ls hl => ?_)
  refine lv_aload_n hx hb d_A_fill_2 rfl (lv_at hl 1 rfl) ?_
  refine al_12 hC hw d_A_fill_3 ?_
  refine lv_istore_n (lv' := [(3, .int (128 : Int32)), (2, .int (0 : Int32)), (0, .ref (ad 12)), (1, .int a2)]) hx hb d_A_fill_4 rfl hl (by decide) rfl (fun ls hl => ?_)
  have hl1 : ∀ (n : Nat) (H : Heap) (locs : List Loc) (ls : Array Slot) (x1 : Int32) (M2 : Mem), wp_A_fill12_l1 a2 Q n x1 M2 → Wd D (ceC ad cA) A s H locs M2 → lv_has ls 4 [(0, .ref (ad 12)), (1, .int a2), (2, .int x1), (3, .int (128 : Int32))] → W p l e rm_A_fill s m args below meth c H locs 0 0 QQ (F0 m 5 ls []) := by
    intro n
    induction n with
    | zero => intro H locs ls x1 M2 hk; exact False.elim hk
    | succ n1 ih1 =>
      intro H locs ls x1 M2 hk hw hl
      refine lv_iload_n hx hb d_A_fill_5 rfl (lv_at hl 2 rfl) ?_
      refine lv_iload_n hx hb d_A_fill_6 rfl (lv_at hl 3 rfl) ?_
      refine lv_icmp_ge (tgt := 20) hx hb d_A_fill_7 (by decide) (fun hc => ?_) (fun hc => ?_)
      · have hk := hk.1 hc
        exact rt_v hQQ hx hb hr hlk hw ⟨rfl, hk⟩ d_A_fill_20
      · have hk := hk.2 hc
        refine lv_aload_n hx hb d_A_fill_10 rfl (lv_at hl 0 rfl) ?_
        refine lv_iload_n hx hb d_A_fill_11 rfl (lv_at hl 2 rfl) ?_
        refine lv_iload_n hx hb d_A_fill_12 rfl (lv_at hl 1 rfl) ?_
        obtain ⟨hin, hk⟩ := hk
        refine st_12 hC hw hin rfl d_A_fill_13 (fun H locs M3 e_M3 hw => ?_)
        have hk := hk M3 e_M3
        obtain ⟨x4, e_x4⟩ : ∃ y : Int32, y = x1 + (1 : Int32) := ⟨_, rfl⟩
        have hk := hk x4 e_x4
        refine lv_iinc (v := x4) (lv' := [(2, .int x4), (0, .ref (ad 12)), (1, .int a2), (3, .int (128 : Int32))]) hx hb d_A_fill_14 hl (k := 2) rfl (by rw [e_x4]; rfl) (by decide) rfl (fun ls hl => ?_)
        refine lv_goto (tgt := 5) hx hb d_A_fill_17 (by decide) ?_
        exact ih1 _ _ _ _ _ hk hw (lv_sub hl [1, 2, 0, 3] rfl)
  obtain ⟨n, hk⟩ := hk
  exact hl1 n _ _ _ _ _ hk hw (lv_sub hl [2, 3, 1, 0] rfl)
set_option maxHeartbeats 4000000 in
set_option maxRecDepth 100000 in
theorem ct_Y_reset {l : Launch} {D : va_G} {cA : ClassId} {ad tb : Nat → Nat} (M0 : Mem) (Q : Mem → Prop) (hk : wp_Y_reset M0 Q) : Ct l y_Y_reset ws_Y_reset rm_Y_reset D (ceC ad cA) cA tb [.ref (ad 3)] M0 (QV Q) := by
  refine Ct.of (own := "TileConsole$Memory") (cc := b_Y_reset) (maxL := 1) (ret := none) ceC_fix (by decide) rfl rfl (Nat.le_of_ble_eq_true rfl) ?_
  intro p e s m args below meth c A QQ ls H locs hQQ hC hr hlk hw hl
  have hx := hC.1.1
  have hb := hC.1.2.1
  unfold wp_Y_reset at hk
  have hl : lv_has ls 1 [(0, .ref (ad 3))] := hl
  refine lv_aload_n hx hb d_Y_reset_0 rfl (lv_at hl 0 rfl) ?_
  refine g_Y_video hC hw m_19 d_Y_reset_1 ?_
  refine lv_iconst (v := 0) hx hb d_Y_reset_4 (by decide) ?_
  refine cl_Sv (As := [.ref (ad 9), .int (0 : Int32)]) hC hw (ct_A_fill9 _ _ _ hk) m_20 mw_A_fill rfl ⟨rfl, rfl, Nat.le_of_ble_eq_true rfl, Nat.le_of_ble_eq_true rfl⟩ rfl hl.1 rfl (Nat.le_of_ble_eq_true rfl) d_Y_reset_5 (fun H locs M1 hk hw => ?_)
  refine lv_aload_n hx hb d_Y_reset_8 rfl (lv_at hl 0 rfl) ?_
  refine g_Y_sprites hC hw m_21 d_Y_reset_9 ?_
  refine lv_iconst (v := 0) hx hb d_Y_reset_12 (by decide) ?_
  refine cl_Sv (As := [.ref (ad 10), .int (0 : Int32)]) hC hw (ct_A_fill10 _ _ _ hk) m_20 mw_A_fill rfl ⟨rfl, rfl, Nat.le_of_ble_eq_true rfl, Nat.le_of_ble_eq_true rfl⟩ rfl hl.1 rfl (Nat.le_of_ble_eq_true rfl) d_Y_reset_13 (fun H locs M2 hk hw => ?_)
  refine lv_aload_n hx hb d_Y_reset_16 rfl (lv_at hl 0 rfl) ?_
  refine g_Y_work hC hw m_22 d_Y_reset_17 ?_
  refine lv_iconst (v := 0) hx hb d_Y_reset_20 (by decide) ?_
  refine cl_Sv (As := [.ref (ad 11), .int (0 : Int32)]) hC hw (ct_A_fill11 _ _ _ hk) m_20 mw_A_fill rfl ⟨rfl, rfl, Nat.le_of_ble_eq_true rfl, Nat.le_of_ble_eq_true rfl⟩ rfl hl.1 rfl (Nat.le_of_ble_eq_true rfl) d_Y_reset_21 (fun H locs M3 hk hw => ?_)
  refine lv_aload_n hx hb d_Y_reset_24 rfl (lv_at hl 0 rfl) ?_
  refine g_Y_high hC hw m_23 d_Y_reset_25 ?_
  refine lv_iconst (v := 0) hx hb d_Y_reset_28 (by decide) ?_
  refine cl_Sv (As := [.ref (ad 12), .int (0 : Int32)]) hC hw (ct_A_fill12 _ _ _ hk) m_20 mw_A_fill rfl ⟨rfl, rfl, Nat.le_of_ble_eq_true rfl, Nat.le_of_ble_eq_true rfl⟩ rfl hl.1 rfl (Nat.le_of_ble_eq_true rfl) d_Y_reset_29 (fun H locs M4 hk hw => ?_)
  exact rt_v hQQ hx hb hr hlk hw ⟨rfl, hk⟩ d_Y_reset_32
set_option maxHeartbeats 4000000 in
set_option maxRecDepth 100000 in
theorem ct_A_fill13 {l : Launch} {D : va_G} {cA : ClassId} {ad tb : Nat → Nat} (M0 : Mem) (a2 : Int32) (Q : Mem → Prop) (hk : wp_A_fill13 M0 a2 Q) : Ct l y_A_fill ws_A_fill rm_A_fill D (ceC ad cA) cA tb [.ref (ad 13), .int a2] M0 (QV Q) := by
  refine Ct.ofF (own := "java/util/Arrays") (cc := b_A_fill) (maxL := 4) (ret := none) ceC_fix (by decide) rfl rfl (Nat.le_of_ble_eq_true rfl) ?_
  intro p e s m args below meth c A QQ ls H locs hQQ hC hr hlk hw hl
  have hx := hC.1.1
  have hb := hC.1.2.1
  unfold wp_A_fill13 at hk
  have hl : lv_has ls 4 [(0, .ref (ad 13)), (1, .int a2)] := hl
  refine lv_iconst (v := 0) hx hb d_A_fill_0 (by decide) ?_
  refine lv_istore_n (lv' := [(2, .int (0 : Int32)), (0, .ref (ad 13)), (1, .int a2)]) hx hb d_A_fill_1 rfl hl (by decide) rfl (fun ls hl => ?_)
  refine lv_aload_n hx hb d_A_fill_2 rfl (lv_at hl 1 rfl) ?_
  refine al_13 hC hw d_A_fill_3 ?_
  refine lv_istore_n (lv' := [(3, .int (160 : Int32)), (2, .int (0 : Int32)), (0, .ref (ad 13)), (1, .int a2)]) hx hb d_A_fill_4 rfl hl (by decide) rfl (fun ls hl => ?_)
  have hl1 : ∀ (n : Nat) (H : Heap) (locs : List Loc) (ls : Array Slot) (x1 : Int32) (M2 : Mem), wp_A_fill13_l1 a2 Q n x1 M2 → Wd D (ceC ad cA) A s H locs M2 → lv_has ls 4 [(0, .ref (ad 13)), (1, .int a2), (2, .int x1), (3, .int (160 : Int32))] → W p l e rm_A_fill s m args below meth c H locs 0 0 QQ (F0 m 5 ls []) := by
    intro n
    induction n with
    | zero => intro H locs ls x1 M2 hk; exact False.elim hk
    | succ n1 ih1 =>
      intro H locs ls x1 M2 hk hw hl
      refine lv_iload_n hx hb d_A_fill_5 rfl (lv_at hl 2 rfl) ?_
      refine lv_iload_n hx hb d_A_fill_6 rfl (lv_at hl 3 rfl) ?_
      refine lv_icmp_ge (tgt := 20) hx hb d_A_fill_7 (by decide) (fun hc => ?_) (fun hc => ?_)
      · have hk := hk.1 hc
        exact rt_v hQQ hx hb hr hlk hw ⟨rfl, hk⟩ d_A_fill_20
      · have hk := hk.2 hc
        refine lv_aload_n hx hb d_A_fill_10 rfl (lv_at hl 0 rfl) ?_
        refine lv_iload_n hx hb d_A_fill_11 rfl (lv_at hl 2 rfl) ?_
        refine lv_iload_n hx hb d_A_fill_12 rfl (lv_at hl 1 rfl) ?_
        obtain ⟨hin, hk⟩ := hk
        refine st_13 hC hw hin rfl d_A_fill_13 (fun H locs M3 e_M3 hw => ?_)
        have hk := hk M3 e_M3
        obtain ⟨x4, e_x4⟩ : ∃ y : Int32, y = x1 + (1 : Int32) := ⟨_, rfl⟩
        have hk := hk x4 e_x4
        refine lv_iinc (v := x4) (lv' := [(2, .int x4), (0, .ref (ad 13)), (1, .int a2), (3, .int (160 : Int32))]) hx hb d_A_fill_14 hl (k := 2) rfl (by rw [e_x4]; rfl) (by decide) rfl (fun ls hl => ?_)
        refine lv_goto (tgt := 5) hx hb d_A_fill_17 (by decide) ?_
        exact ih1 _ _ _ _ _ hk hw (lv_sub hl [1, 2, 0, 3] rfl)
  obtain ⟨n, hk⟩ := hk
  exact hl1 n _ _ _ _ _ hk hw (lv_sub hl [2, 3, 1, 0] rfl)
set_option maxHeartbeats 4000000 in
set_option maxRecDepth 100000 in
theorem ct_S_reset {l : Launch} {D : va_G} {cA : ClassId} {ad tb : Nat → Nat} (M0 : Mem) (Q : Mem → Prop) (hk : wp_S_reset M0 Q) : Ct l y_S_reset ws_S_reset rm_S_reset D (ceC ad cA) cA tb [.ref (ad 4)] M0 (QV Q) := by
  refine Ct.of (own := "TileConsole$Screen") (cc := b_S_reset) (maxL := 1) (ret := none) ceC_fix (by decide) rfl rfl (Nat.le_of_ble_eq_true rfl) ?_
  intro p e s m args below meth c A QQ ls H locs hQQ hC hr hlk hw hl
  have hx := hC.1.1
  have hb := hC.1.2.1
  unfold wp_S_reset at hk
  have hl : lv_has ls 1 [(0, .ref (ad 4))] := hl
  refine lv_aload_n hx hb d_S_reset_0 rfl (lv_at hl 0 rfl) ?_
  refine g_S_pixels hC hw m_24 d_S_reset_1 ?_
  refine lv_iconst (v := 0) hx hb d_S_reset_4 (by decide) ?_
  refine cl_Sv (As := [.ref (ad 13), .int (0 : Int32)]) hC hw (ct_A_fill13 _ _ _ hk) m_25 mw_A_fill rfl ⟨rfl, rfl, Nat.le_of_ble_eq_true rfl, Nat.le_of_ble_eq_true rfl⟩ rfl hl.1 rfl (Nat.le_of_ble_eq_true rfl) d_S_reset_5 (fun H locs M1 hk hw => ?_)
  exact rt_v hQQ hx hb hr hlk hw ⟨rfl, hk⟩ d_S_reset_8
set_option maxHeartbeats 4000000 in
set_option maxRecDepth 100000 in
theorem ct_Q_setPair {l : Launch} {D : va_G} {cA : ClassId} {ad tb : Nat → Nat} (M0 : Mem) (a1 : Int32) (a2 : Int32) (Q : Mem → Prop) (hk : wp_Q_setPair M0 a1 a2 Q) : Ct l y_Q_setPair ws_Q_setPair rm_Q_setPair D (ceC ad cA) cA tb [.ref (ad 5), .int a1, .int a2] M0 (QV Q) := by
  refine Ct.of (own := "TileConsole$Processor") (cc := b_Q_setPair) (maxL := 3) (ret := none) ceC_fix (by decide) rfl rfl (Nat.le_of_ble_eq_true rfl) ?_
  intro p e s m args below meth c A QQ ls H locs hQQ hC hr hlk hw hl
  have hx := hC.1.1
  have hb := hC.1.2.1
  unfold wp_Q_setPair at hk
  have hl : lv_has ls 3 [(0, .ref (ad 5)), (1, .int a1), (2, .int a2)] := hl
  refine lv_iload_n hx hb d_Q_setPair_0 rfl (lv_at hl 1 rfl) ?_
  refine lv_iconst (v := 3) hx hb d_Q_setPair_1 (by decide) ?_
  have hj1 : ∀ (H : Heap) (locs : List Loc) (ls : Array Slot) (M5 : Mem), wp_Q_setPair_j1 M5 Q → Wd D (ceC ad cA) A s H locs M5 → lv_has ls 3 [(0, .ref (ad 5)), (1, .int a1), (2, .int a2)] → W p l e rm_Q_setPair s m args below meth c H locs 0 0 QQ (F0 m 53 ls []) := by
    intro H locs ls M5 hk hw hl
    unfold wp_Q_setPair_j1 at hk
    exact rt_v hQQ hx hb hr hlk hw ⟨rfl, hk⟩ d_Q_setPair_53
  refine lv_icmp_ne (tgt := 16) hx hb d_Q_setPair_2 (by decide) (fun hc => ?_) (fun hc => ?_)
  · have hk := hk.1 hc
    refine lv_aload_n hx hb d_Q_setPair_16 rfl (lv_at hl 0 rfl) ?_
    refine g_Q_r hC hw m_26 d_Q_setPair_17 ?_
    refine lv_iconst (v := 2) hx hb d_Q_setPair_20 (by decide) ?_
    refine lv_iload_n hx hb d_Q_setPair_21 rfl (lv_at hl 1 rfl) ?_
    refine lv_imul hx hb d_Q_setPair_22 ?_
    refine lv_bipush (v := 7) hx hb d_Q_setPair_23 (by decide) ?_
    refine lv_iand hx hb d_Q_setPair_25 ?_
    refine lv_iload_n hx hb d_Q_setPair_26 rfl (lv_at hl 2 rfl) ?_
    refine lv_bipush (v := 8) hx hb d_Q_setPair_27 (by decide) ?_
    refine lv_ishr hx hb d_Q_setPair_29 ?_
    refine lv_sipush (v := 255) hx hb d_Q_setPair_30 (by decide) ?_
    refine lv_iand hx hb d_Q_setPair_33 ?_
    obtain ⟨hin, hk⟩ := hk
    refine st_17 hC hw hin rfl d_Q_setPair_34 (fun H locs M6 e_M6 hw => ?_)
    have hk := hk M6 e_M6
    refine lv_aload_n hx hb d_Q_setPair_35 rfl (lv_at hl 0 rfl) ?_
    refine g_Q_r hC hw m_26 d_Q_setPair_36 ?_
    refine lv_iconst (v := 2) hx hb d_Q_setPair_39 (by decide) ?_
    refine lv_iload_n hx hb d_Q_setPair_40 rfl (lv_at hl 1 rfl) ?_
    refine lv_imul hx hb d_Q_setPair_41 ?_
    refine lv_iconst (v := 1) hx hb d_Q_setPair_42 (by decide) ?_
    refine lv_iadd hx hb d_Q_setPair_43 ?_
    refine lv_bipush (v := 7) hx hb d_Q_setPair_44 (by decide) ?_
    refine lv_iand hx hb d_Q_setPair_46 ?_
    refine lv_iload_n hx hb d_Q_setPair_47 rfl (lv_at hl 2 rfl) ?_
    refine lv_sipush (v := 255) hx hb d_Q_setPair_48 (by decide) ?_
    refine lv_iand hx hb d_Q_setPair_51 ?_
    obtain ⟨hin, hk⟩ := hk
    refine st_17 hC hw hin rfl d_Q_setPair_52 (fun H locs M7 e_M7 hw => ?_)
    have hk := hk M7 e_M7
    exact hj1 _ _ _ _ hk hw (lv_sub hl [0, 1, 2] rfl)
  · have hk := hk.2 hc
    refine lv_aload_n hx hb d_Q_setPair_5 rfl (lv_at hl 0 rfl) ?_
    refine lv_iload_n hx hb d_Q_setPair_6 rfl (lv_at hl 2 rfl) ?_
    refine lv_ldc (v := (65535 : Int32)) hx hb hC.1.2.2.2.1 (hC.1.2.2.2.2 _ m_27) d_Q_setPair_7 ?_
    refine lv_iand hx hb d_Q_setPair_9 ?_
    refine p_Q_sp hC hw m_28 d_Q_setPair_10 (fun H locs M8 e_M8 hw => ?_)
    have hk := hk M8 e_M8
    refine lv_goto (tgt := 53) hx hb d_Q_setPair_13 (by decide) ?_
    exact hj1 _ _ _ _ hk hw (lv_sub hl [0, 1, 2] rfl)
set_option maxHeartbeats 4000000 in
set_option maxRecDepth 100000 in
theorem ct_Q_reset {l : Launch} {D : va_G} {cA : ClassId} {ad tb : Nat → Nat} (M0 : Mem) (Q : Mem → Prop) (hk : wp_Q_reset M0 Q) : Ct l y_Q_reset ws_Q_reset rm_Q_reset D (ceC ad cA) cA tb [.ref (ad 5)] M0 (QV Q) := by
  refine Ct.of (own := "TileConsole$Processor") (cc := b_Q_reset) (maxL := 1) (ret := none) ceC_fix (by decide) rfl rfl (Nat.le_of_ble_eq_true rfl) ?_
  intro p e s m args below meth c A QQ ls H locs hQQ hC hr hlk hw hl
  have hx := hC.1.1
  have hb := hC.1.2.1
  unfold wp_Q_reset at hk
  have hl : lv_has ls 1 [(0, .ref (ad 5))] := hl
  refine lv_aload_n hx hb d_Q_reset_0 rfl (lv_at hl 0 rfl) ?_
  refine g_Q_r hC hw m_26 d_Q_reset_1 ?_
  refine lv_bipush (v := 7) hx hb d_Q_reset_4 (by decide) ?_
  refine lv_iconst (v := 1) hx hb d_Q_reset_6 (by decide) ?_
  refine st_17 (k := 7) hC hw (vin_lit rfl) (by decide) d_Q_reset_7 (fun H locs M1 e_M1 hw => ?_)
  have hk := hk M1 e_M1
  refine lv_aload_n hx hb d_Q_reset_8 rfl (lv_at hl 0 rfl) ?_
  refine g_Q_r hC hw m_26 d_Q_reset_9 ?_
  refine lv_bipush (v := 6) hx hb d_Q_reset_12 (by decide) ?_
  refine lv_sipush (v := 176) hx hb d_Q_reset_14 (by decide) ?_
  refine st_17 (k := 6) hC hw (vin_lit rfl) (by decide) d_Q_reset_17 (fun H locs M2 e_M2 hw => ?_)
  have hk := hk M2 e_M2
  refine lv_aload_n hx hb d_Q_reset_18 rfl (lv_at hl 0 rfl) ?_
  refine lv_iconst (v := 0) hx hb d_Q_reset_19 (by decide) ?_
  refine lv_bipush (v := 19) hx hb d_Q_reset_20 (by decide) ?_
  refine cl_Vv (j := 5) (As := [.int (0 : Int32), .int (19 : Int32)]) hC hw (ct_Q_setPair _ _ _ _ hk) m_29 mw_Q_setPair rfl ⟨rfl, rfl, Nat.le_of_ble_eq_true rfl, Nat.le_of_ble_eq_true rfl⟩ rfl rfl rfl hl.1 rfl (Nat.le_of_ble_eq_true rfl) d_Q_reset_22 (fun H locs M3 hk hw => ?_)
  refine lv_aload_n hx hb d_Q_reset_25 rfl (lv_at hl 0 rfl) ?_
  refine lv_iconst (v := 1) hx hb d_Q_reset_26 (by decide) ?_
  refine lv_sipush (v := 216) hx hb d_Q_reset_27 (by decide) ?_
  refine cl_Vv (j := 5) (As := [.int (1 : Int32), .int (216 : Int32)]) hC hw (ct_Q_setPair _ _ _ _ hk) m_29 mw_Q_setPair rfl ⟨rfl, rfl, Nat.le_of_ble_eq_true rfl, Nat.le_of_ble_eq_true rfl⟩ rfl rfl rfl hl.1 rfl (Nat.le_of_ble_eq_true rfl) d_Q_reset_30 (fun H locs M4 hk hw => ?_)
  refine lv_aload_n hx hb d_Q_reset_33 rfl (lv_at hl 0 rfl) ?_
  refine lv_iconst (v := 2) hx hb d_Q_reset_34 (by decide) ?_
  refine lv_sipush (v := 333) hx hb d_Q_reset_35 (by decide) ?_
  refine cl_Vv (j := 5) (As := [.int (2 : Int32), .int (333 : Int32)]) hC hw (ct_Q_setPair _ _ _ _ hk) m_29 mw_Q_setPair rfl ⟨rfl, rfl, Nat.le_of_ble_eq_true rfl, Nat.le_of_ble_eq_true rfl⟩ rfl rfl rfl hl.1 rfl (Nat.le_of_ble_eq_true rfl) d_Q_reset_38 (fun H locs M5 hk hw => ?_)
  refine lv_aload_n hx hb d_Q_reset_41 rfl (lv_at hl 0 rfl) ?_
  refine lv_ldc (v := (65534 : Int32)) hx hb hC.1.2.2.2.1 (hC.1.2.2.2.2 _ m_30) d_Q_reset_42 ?_
  refine p_Q_sp hC hw m_28 d_Q_reset_44 (fun H locs M6 e_M6 hw => ?_)
  have hk := hk M6 e_M6
  refine lv_aload_n hx hb d_Q_reset_47 rfl (lv_at hl 0 rfl) ?_
  refine lv_sipush (v := 256) hx hb d_Q_reset_48 (by decide) ?_
  refine p_Q_pc hC hw m_31 d_Q_reset_51 (fun H locs M7 e_M7 hw => ?_)
  have hk := hk M7 e_M7
  refine lv_aload_n hx hb d_Q_reset_54 rfl (lv_at hl 0 rfl) ?_
  refine lv_iconst (v := 0) hx hb d_Q_reset_55 (by decide) ?_
  refine p_Q_ime hC hw (Or.inl rfl) m_32 d_Q_reset_56 (fun H locs M8 e_M8 hw => ?_)
  have hk := hk M8 e_M8
  refine lv_aload_n hx hb d_Q_reset_59 rfl (lv_at hl 0 rfl) ?_
  refine lv_iconst (v := 0) hx hb d_Q_reset_60 (by decide) ?_
  refine p_Q_halted hC hw (Or.inl rfl) m_33 d_Q_reset_61 (fun H locs M9 e_M9 hw => ?_)
  have hk := hk M9 e_M9
  refine lv_aload_n hx hb d_Q_reset_64 rfl (lv_at hl 0 rfl) ?_
  refine lv_iconst (v := 0) hx hb d_Q_reset_65 (by decide) ?_
  refine p_Q_locked hC hw (Or.inl rfl) m_34 d_Q_reset_66 (fun H locs M10 e_M10 hw => ?_)
  have hk := hk M10 e_M10
  refine lv_aload_n hx hb d_Q_reset_69 rfl (lv_at hl 0 rfl) ?_
  refine lv_iconst (v := 0) hx hb d_Q_reset_70 (by decide) ?_
  refine p_Q_armed hC hw (Or.inl rfl) m_35 d_Q_reset_71 (fun H locs M11 e_M11 hw => ?_)
  have hk := hk M11 e_M11
  refine lv_aload_n hx hb d_Q_reset_74 rfl (lv_at hl 0 rfl) ?_
  refine lv_iconst (v := 0) hx hb d_Q_reset_75 (by decide) ?_
  refine p_Q_cycles hC hw m_36 d_Q_reset_76 (fun H locs M12 e_M12 hw => ?_)
  have hk := hk M12 e_M12
  refine lv_aload_n hx hb d_Q_reset_79 rfl (lv_at hl 0 rfl) ?_
  refine lv_iconst (v := 0) hx hb d_Q_reset_80 (by decide) ?_
  refine p_Q_done hC hw m_37 d_Q_reset_81 (fun H locs M13 e_M13 hw => ?_)
  have hk := hk M13 e_M13
  refine lv_aload_n hx hb d_Q_reset_84 rfl (lv_at hl 0 rfl) ?_
  refine lv_iconst (v := 0) hx hb d_Q_reset_85 (by decide) ?_
  refine p_Q_taken hC hw m_38 d_Q_reset_86 (fun H locs M14 e_M14 hw => ?_)
  have hk := hk M14 e_M14
  exact rt_v hQQ hx hb hr hlk hw ⟨rfl, hk⟩ d_Q_reset_89
set_option maxHeartbeats 4000000 in
set_option maxRecDepth 100000 in
theorem ct_T_startAnew {l : Launch} {D : va_G} {cA : ClassId} {ad tb : Nat → Nat} (M0 : Mem) (Q : Mem → Prop) (hk : wp_T_startAnew M0 Q) : Ct l y_T_startAnew ws_T_startAnew rm_T_startAnew D (ceC ad cA) cA tb [.ref (ad 0)] M0 (QV Q) := by
  refine Ct.of (own := "TileConsole") (cc := b_T_startAnew) (maxL := 1) (ret := none) ceC_fix (by decide) rfl rfl (Nat.le_of_ble_eq_true rfl) ?_
  intro p e s m args below meth c A QQ ls H locs hQQ hC hr hlk hw hl
  have hx := hC.1.1
  have hb := hC.1.2.1
  unfold wp_T_startAnew at hk
  have hl : lv_has ls 1 [(0, .ref (ad 0))] := hl
  refine lv_aload_n hx hb d_T_startAnew_0 rfl (lv_at hl 0 rfl) ?_
  refine g_T_cartridge hC hw m_39 d_T_startAnew_1 ?_
  refine cl_Vv (j := 1) (As := []) hC hw (ct_K_reset _  _ hk) m_40 mw_K_reset rfl ⟨rfl, rfl, Nat.le_of_ble_eq_true rfl, Nat.le_of_ble_eq_true rfl⟩ rfl rfl rfl hl.1 rfl (Nat.le_of_ble_eq_true rfl) d_T_startAnew_4 (fun H locs M1 hk hw => ?_)
  refine lv_aload_n hx hb d_T_startAnew_7 rfl (lv_at hl 0 rfl) ?_
  refine g_T_ports hC hw m_41 d_T_startAnew_8 ?_
  refine cl_Vv (j := 2) (As := []) hC hw (ct_P_reset _  _ hk) m_42 mw_P_reset rfl ⟨rfl, rfl, Nat.le_of_ble_eq_true rfl, Nat.le_of_ble_eq_true rfl⟩ rfl rfl rfl hl.1 rfl (Nat.le_of_ble_eq_true rfl) d_T_startAnew_11 (fun H locs M2 hk hw => ?_)
  refine lv_aload_n hx hb d_T_startAnew_14 rfl (lv_at hl 0 rfl) ?_
  refine g_T_memory hC hw m_43 d_T_startAnew_15 ?_
  refine cl_Vv (j := 3) (As := []) hC hw (ct_Y_reset _  _ hk) m_44 mw_Y_reset rfl ⟨rfl, rfl, Nat.le_of_ble_eq_true rfl, Nat.le_of_ble_eq_true rfl⟩ rfl rfl rfl hl.1 rfl (Nat.le_of_ble_eq_true rfl) d_T_startAnew_18 (fun H locs M3 hk hw => ?_)
  refine lv_aload_n hx hb d_T_startAnew_21 rfl (lv_at hl 0 rfl) ?_
  refine g_T_screen hC hw m_45 d_T_startAnew_22 ?_
  refine cl_Vv (j := 4) (As := []) hC hw (ct_S_reset _  _ hk) m_46 mw_S_reset rfl ⟨rfl, rfl, Nat.le_of_ble_eq_true rfl, Nat.le_of_ble_eq_true rfl⟩ rfl rfl rfl hl.1 rfl (Nat.le_of_ble_eq_true rfl) d_T_startAnew_25 (fun H locs M4 hk hw => ?_)
  refine lv_aload_n hx hb d_T_startAnew_28 rfl (lv_at hl 0 rfl) ?_
  refine g_T_processor hC hw m_47 d_T_startAnew_29 ?_
  refine cl_Vv (j := 5) (As := []) hC hw (ct_Q_reset _  _ hk) m_48 mw_Q_reset rfl ⟨rfl, rfl, Nat.le_of_ble_eq_true rfl, Nat.le_of_ble_eq_true rfl⟩ rfl rfl rfl hl.1 rfl (Nat.le_of_ble_eq_true rfl) d_T_startAnew_32 (fun H locs M5 hk hw => ?_)
  exact rt_v hQQ hx hb hr hlk hw ⟨rfl, hk⟩ d_T_startAnew_35
set_option maxHeartbeats 4000000 in
set_option maxRecDepth 100000 in
theorem ct_T_octetOf {l : Launch} {D : va_G} {cA : ClassId} {ad tb : Nat → Nat} (M0 : Mem) (a1 : Int64) (a2 : Int32) (Q : Int32 → Prop) (hk : wp_T_octetOf M0 a1 a2 Q) : Ct l y_T_octetOf ws_T_octetOf rm_T_octetOf D (ceC ad cA) cA tb [.long a1, .int a2] M0 (QIp M0 Q) := by
  refine Ct.of (own := "TileConsole") (cc := b_T_octetOf) (maxL := 3) (ret := (some .int)) ceC_fix (by decide) rfl rfl (Nat.le_of_ble_eq_true rfl) ?_
  intro p e s m args below meth c A QQ ls H locs hQQ hC hr hlk hw hl
  have hx := hC.1.1
  have hb := hC.1.2.1
  unfold wp_T_octetOf at hk
  have hl : lv_has ls 3 [(0, .long a1), (2, .int a2)] := hl
  refine lv_lload_n hx hb d_T_octetOf_0 rfl (lv_at hl 0 rfl) ?_
  refine lv_bipush (v := 8) hx hb d_T_octetOf_1 (by decide) ?_
  refine lv_iload_n hx hb d_T_octetOf_3 rfl (lv_at hl 1 rfl) ?_
  refine lv_imul hx hb d_T_octetOf_4 ?_
  refine lv_lushr hx hb d_T_octetOf_5 rfl ?_
  refine lv_l2i hx hb d_T_octetOf_6 rfl ?_
  refine lv_sipush (v := 255) hx hb d_T_octetOf_7 (by decide) ?_
  refine lv_iand hx hb d_T_octetOf_10 ?_
  exact rt_i hQQ hx hb hr hlk hw ⟨rfl, _, rfl, hk⟩ d_T_octetOf_11
set_option maxHeartbeats 4000000 in
set_option maxRecDepth 100000 in
theorem ct_K_headerAgrees {l : Launch} {D : va_G} {cA : ClassId} {ad tb : Nat → Nat} (M0 : Mem) (Q : Int32 → Prop) (hk : wp_K_headerAgrees M0 Q) : Ct l y_K_headerAgrees ws_K_headerAgrees rm_K_headerAgrees D (ceC ad cA) cA tb [.ref (ad 1)] M0 (QIp M0 Q) := by
  refine Ct.of (own := "TileConsole$Cartridge") (cc := b_K_headerAgrees) (maxL := 3) (ret := (some .boolean)) ceC_fix (by decide) rfl rfl (Nat.le_of_ble_eq_true rfl) ?_
  intro p e s m args below meth c A QQ ls H locs hQQ hC hr hlk hw hl
  have hx := hC.1.1
  have hb := hC.1.2.1
  unfold wp_K_headerAgrees at hk
  have hl : lv_has ls 3 [(0, .ref (ad 1))] := hl
  refine lv_iconst (v := 0) hx hb d_K_headerAgrees_0 (by decide) ?_
  refine lv_istore_n (lv' := [(1, .int (0 : Int32)), (0, .ref (ad 1))]) hx hb d_K_headerAgrees_1 rfl hl (by decide) rfl (fun ls hl => ?_)
  refine lv_sipush (v := 308) hx hb d_K_headerAgrees_2 (by decide) ?_
  refine lv_istore_n (lv' := [(2, .int (308 : Int32)), (1, .int (0 : Int32)), (0, .ref (ad 1))]) hx hb d_K_headerAgrees_5 rfl hl (by decide) rfl (fun ls hl => ?_)
  have hl1 : ∀ (n : Nat) (H : Heap) (locs : List Loc) (ls : Array Slot) (x1 : Int32) (x2 : Int32), wp_K_headerAgrees_l1 M0 Q n x1 x2 → Wd D (ceC ad cA) A s H locs M0 → lv_has ls 3 [(0, .ref (ad 1)), (1, .int x1), (2, .int x2)] → W p l e rm_K_headerAgrees s m args below meth c H locs 0 0 QQ (F0 m 6 ls []) := by
    intro n
    induction n with
    | zero => intro H locs ls x1 x2 hk; exact False.elim hk
    | succ n1 ih1 =>
      intro H locs ls x1 x2 hk hw hl
      refine lv_iload_n hx hb d_K_headerAgrees_6 rfl (lv_at hl 2 rfl) ?_
      refine lv_sipush (v := 333) hx hb d_K_headerAgrees_7 (by decide) ?_
      refine lv_icmp_ge (tgt := 30) hx hb d_K_headerAgrees_10 (by decide) (fun hc => ?_) (fun hc => ?_)
      · have hk := hk.1 hc
        refine lv_iload_n hx hb d_K_headerAgrees_30 rfl (lv_at hl 1 rfl) ?_
        refine lv_sipush (v := 255) hx hb d_K_headerAgrees_31 (by decide) ?_
        refine lv_iand hx hb d_K_headerAgrees_34 ?_
        refine lv_aload_n hx hb d_K_headerAgrees_35 rfl (lv_at hl 0 rfl) ?_
        refine g_K_rom hC hw m_49 d_K_headerAgrees_36 ?_
        refine lv_sipush (v := 333) hx hb d_K_headerAgrees_39 (by decide) ?_
        refine ld_6 (k := 333) hC hw (vin_lit rfl) (by decide) d_K_headerAgrees_42 ?_
        have hj1 : ∀ (H : Heap) (locs : List Loc) (ls : Array Slot) (x4 : Int32), wp_K_headerAgrees_j1 x4 Q → Wd D (ceC ad cA) A s H locs M0 → lv_has ls 3 [(0, .ref (ad 1)), (1, .int x1), (2, .int x2)] → W p l e rm_K_headerAgrees s m args below meth c H locs 0 0 QQ (F0 m 51 ls [.int x4]) := by
          intro H locs ls x4 hk hw hl
          unfold wp_K_headerAgrees_j1 at hk
          obtain ⟨hz, hk⟩ := hk
          exact rt_z hQQ hx hb hr hlk hw hz ⟨rfl, _, rfl, hk⟩ d_K_headerAgrees_51
        refine lv_icmp_ne (tgt := 50) hx hb d_K_headerAgrees_43 (by decide) (fun hc => ?_) (fun hc => ?_)
        · have hk := hk.1 hc
          refine lv_iconst (v := 0) hx hb d_K_headerAgrees_50 (by decide) ?_
          exact hj1 _ _ _ _ hk hw (lv_sub hl [0, 1, 2] rfl)
        · have hk := hk.2 hc
          refine lv_iconst (v := 1) hx hb d_K_headerAgrees_46 (by decide) ?_
          refine lv_goto (tgt := 51) hx hb d_K_headerAgrees_47 (by decide) ?_
          exact hj1 _ _ _ _ hk hw (lv_sub hl [0, 1, 2] rfl)
      · have hk := hk.2 hc
        refine lv_iload_n hx hb d_K_headerAgrees_13 rfl (lv_at hl 1 rfl) ?_
        refine lv_aload_n hx hb d_K_headerAgrees_14 rfl (lv_at hl 0 rfl) ?_
        refine g_K_rom hC hw m_49 d_K_headerAgrees_15 ?_
        refine lv_iload_n hx hb d_K_headerAgrees_18 rfl (lv_at hl 2 rfl) ?_
        obtain ⟨hin, hk⟩ := hk
        refine ld_6 hC hw hin rfl d_K_headerAgrees_19 ?_
        refine lv_isub hx hb d_K_headerAgrees_20 ?_
        refine lv_iconst (v := 1) hx hb d_K_headerAgrees_21 (by decide) ?_
        refine lv_isub hx hb d_K_headerAgrees_22 ?_
        refine lv_topi (fun x5 e_x5 => ?_)
        have hk := hk x5 e_x5
        refine lv_istore_n (lv' := [(1, .int x5), (0, .ref (ad 1)), (2, .int x2)]) hx hb d_K_headerAgrees_23 rfl hl (by decide) rfl (fun ls hl => ?_)
        obtain ⟨x6, e_x6⟩ : ∃ y : Int32, y = x2 + (1 : Int32) := ⟨_, rfl⟩
        have hk := hk x6 e_x6
        refine lv_iinc (v := x6) (lv' := [(2, .int x6), (1, .int x5), (0, .ref (ad 1))]) hx hb d_K_headerAgrees_24 hl (k := 2) rfl (by rw [e_x6]; rfl) (by decide) rfl (fun ls hl => ?_)
        refine lv_goto (tgt := 6) hx hb d_K_headerAgrees_27 (by decide) ?_
        exact ih1 _ _ _ _ _ hk hw (lv_sub hl [2, 1, 0] rfl)
  obtain ⟨n, hk⟩ := hk
  exact hl1 n _ _ _ _ _ hk hw (lv_sub hl [2, 1, 0] rfl)
set_option maxHeartbeats 4000000 in
set_option maxRecDepth 100000 in
theorem ct_P_waiting {l : Launch} {D : va_G} {cA : ClassId} {ad tb : Nat → Nat} (M0 : Mem) (Q : Int32 → Prop) (hk : wp_P_waiting M0 Q) : Ct l y_P_waiting ws_P_waiting rm_P_waiting D (ceC ad cA) cA tb [.ref (ad 2)] M0 (QIp M0 Q) := by
  refine Ct.of (own := "TileConsole$Ports") (cc := b_P_waiting) (maxL := 1) (ret := (some .int)) ceC_fix (by decide) rfl rfl (Nat.le_of_ble_eq_true rfl) ?_
  intro p e s m args below meth c A QQ ls H locs hQQ hC hr hlk hw hl
  have hx := hC.1.1
  have hb := hC.1.2.1
  unfold wp_P_waiting at hk
  have hl : lv_has ls 1 [(0, .ref (ad 2))] := hl
  refine lv_aload_n hx hb d_P_waiting_0 rfl (lv_at hl 0 rfl) ?_
  refine g_P_octets hC hw m_10 d_P_waiting_1 ?_
  refine lv_sipush (v := 255) hx hb d_P_waiting_4 (by decide) ?_
  refine ld_8 (k := 255) hC hw (vin_lit rfl) (by decide) d_P_waiting_7 ?_
  refine lv_aload_n hx hb d_P_waiting_8 rfl (lv_at hl 0 rfl) ?_
  refine g_P_octets hC hw m_10 d_P_waiting_9 ?_
  refine lv_bipush (v := 15) hx hb d_P_waiting_12 (by decide) ?_
  refine ld_8 (k := 15) hC hw (vin_lit rfl) (by decide) d_P_waiting_14 ?_
  refine lv_iand hx hb d_P_waiting_15 ?_
  refine lv_bipush (v := 31) hx hb d_P_waiting_16 (by decide) ?_
  refine lv_iand hx hb d_P_waiting_18 ?_
  exact rt_i hQQ hx hb hr hlk hw ⟨rfl, _, rfl, hk⟩ d_P_waiting_19
set_option maxHeartbeats 4000000 in
set_option maxRecDepth 100000 in
theorem ct_K_controlOne {l : Launch} {D : va_G} {cA : ClassId} {ad tb : Nat → Nat} (M0 : Mem) (a1 : Int32) (a2 : Int32) (Q : Mem → Prop) (hk : wp_K_controlOne M0 a1 a2 Q) : Ct l y_K_controlOne ws_K_controlOne rm_K_controlOne D (ceC ad cA) cA tb [.ref (ad 1), .int a1, .int a2] M0 (QV Q) := by
  refine Ct.of (own := "TileConsole$Cartridge") (cc := b_K_controlOne) (maxL := 3) (ret := none) ceC_fix (by decide) rfl rfl (Nat.le_of_ble_eq_true rfl) ?_
  intro p e s m args below meth c A QQ ls H locs hQQ hC hr hlk hw hl
  have hx := hC.1.1
  have hb := hC.1.2.1
  unfold wp_K_controlOne at hk
  have hl : lv_has ls 3 [(0, .ref (ad 1)), (1, .int a1), (2, .int a2)] := hl
  refine lv_iload_n hx hb d_K_controlOne_0 rfl (lv_at hl 1 rfl) ?_
  refine lv_sipush (v := 8192) hx hb d_K_controlOne_1 (by decide) ?_
  have hj1 : ∀ (H : Heap) (locs : List Loc) (ls : Array Slot) (M12 : Mem), wp_K_controlOne_j1 M12 Q → Wd D (ceC ad cA) A s H locs M12 → lv_has ls 3 [(0, .ref (ad 1)), (1, .int a1), (2, .int a2)] → W p l e rm_K_controlOne s m args below meth c H locs 0 0 QQ (F0 m 81 ls []) := by
    intro H locs ls M12 hk hw hl
    unfold wp_K_controlOne_j1 at hk
    exact rt_v hQQ hx hb hr hlk hw ⟨rfl, hk⟩ d_K_controlOne_81
  refine lv_icmp_ge (tgt := 28) hx hb d_K_controlOne_4 (by decide) (fun hc => ?_) (fun hc => ?_)
  · have hk := hk.1 hc
    refine lv_iload_n hx hb d_K_controlOne_28 rfl (lv_at hl 1 rfl) ?_
    refine lv_sipush (v := 16384) hx hb d_K_controlOne_29 (by decide) ?_
    refine lv_icmp_ge (tgt := 57) hx hb d_K_controlOne_32 (by decide) (fun hc => ?_) (fun hc => ?_)
    · have hk := hk.1 hc
      refine lv_iload_n hx hb d_K_controlOne_57 rfl (lv_at hl 1 rfl) ?_
      refine lv_sipush (v := 24576) hx hb d_K_controlOne_58 (by decide) ?_
      refine lv_icmp_ge (tgt := 74) hx hb d_K_controlOne_61 (by decide) (fun hc => ?_) (fun hc => ?_)
      · have hk := hk.1 hc
        refine lv_aload_n hx hb d_K_controlOne_74 rfl (lv_at hl 0 rfl) ?_
        refine lv_iload_n hx hb d_K_controlOne_75 rfl (lv_at hl 2 rfl) ?_
        refine lv_iconst (v := 1) hx hb d_K_controlOne_76 (by decide) ?_
        refine lv_iand hx hb d_K_controlOne_77 ?_
        refine p_K_mode hC hw m_6 d_K_controlOne_78 (fun H locs M13 e_M13 hw => ?_)
        have hk := hk M13 e_M13
        exact hj1 _ _ _ _ hk hw (lv_sub hl [0, 1, 2] rfl)
      · have hk := hk.2 hc
        refine lv_aload_n hx hb d_K_controlOne_64 rfl (lv_at hl 0 rfl) ?_
        refine lv_iload_n hx hb d_K_controlOne_65 rfl (lv_at hl 2 rfl) ?_
        refine lv_iconst (v := 3) hx hb d_K_controlOne_66 (by decide) ?_
        refine lv_iand hx hb d_K_controlOne_67 ?_
        refine p_K_ramNumber hC hw m_7 d_K_controlOne_68 (fun H locs M14 e_M14 hw => ?_)
        have hk := hk M14 e_M14
        refine lv_goto (tgt := 81) hx hb d_K_controlOne_71 (by decide) ?_
        exact hj1 _ _ _ _ hk hw (lv_sub hl [0, 1, 2] rfl)
    · have hk := hk.2 hc
      refine lv_aload_n hx hb d_K_controlOne_35 rfl (lv_at hl 0 rfl) ?_
      refine lv_iload_n hx hb d_K_controlOne_36 rfl (lv_at hl 2 rfl) ?_
      refine lv_bipush (v := 31) hx hb d_K_controlOne_37 (by decide) ?_
      refine lv_iand hx hb d_K_controlOne_39 ?_
      have hj2 : ∀ (H : Heap) (locs : List Loc) (ls : Array Slot) (x17 : Int32), wp_K_controlOne_j2 M0 x17 Q → Wd D (ceC ad cA) A s H locs M0 → lv_has ls 3 [(0, .ref (ad 1)), (1, .int a1), (2, .int a2)] → W p l e rm_K_controlOne s m args below meth c H locs 0 0 QQ (F0 m 51 ls [.int x17, .ref (ad 1)]) := by
        intro H locs ls x17 hk hw hl
        unfold wp_K_controlOne_j2 at hk
        refine p_K_romNumber hC hw m_4 d_K_controlOne_51 (fun H locs M18 e_M18 hw => ?_)
        have hk := hk M18 e_M18
        refine lv_goto (tgt := 81) hx hb d_K_controlOne_54 (by decide) ?_
        exact hj1 _ _ _ _ hk hw (lv_sub hl [0, 1, 2] rfl)
      refine lv_if_ne (tgt := 47) hx hb d_K_controlOne_40 (by decide) (fun hc => ?_) (fun hc => ?_)
      · have hk := hk.1 hc
        refine lv_iload_n hx hb d_K_controlOne_47 rfl (lv_at hl 2 rfl) ?_
        refine lv_bipush (v := 31) hx hb d_K_controlOne_48 (by decide) ?_
        refine lv_iand hx hb d_K_controlOne_50 ?_
        exact hj2 _ _ _ _ hk hw (lv_sub hl [0, 1, 2] rfl)
      · have hk := hk.2 hc
        refine lv_iconst (v := 1) hx hb d_K_controlOne_43 (by decide) ?_
        refine lv_goto (tgt := 51) hx hb d_K_controlOne_44 (by decide) ?_
        exact hj2 _ _ _ _ hk hw (lv_sub hl [0, 1, 2] rfl)
  · have hk := hk.2 hc
    refine lv_aload_n hx hb d_K_controlOne_7 rfl (lv_at hl 0 rfl) ?_
    refine lv_iload_n hx hb d_K_controlOne_8 rfl (lv_at hl 2 rfl) ?_
    refine lv_bipush (v := 15) hx hb d_K_controlOne_9 (by decide) ?_
    refine lv_iand hx hb d_K_controlOne_11 ?_
    refine lv_bipush (v := 10) hx hb d_K_controlOne_12 (by decide) ?_
    have hj3 : ∀ (H : Heap) (locs : List Loc) (ls : Array Slot) (x21 : Int32), wp_K_controlOne_j3 M0 x21 Q → Wd D (ceC ad cA) A s H locs M0 → lv_has ls 3 [(0, .ref (ad 1)), (1, .int a1), (2, .int a2)] → W p l e rm_K_controlOne s m args below meth c H locs 0 0 QQ (F0 m 22 ls [.int x21, .ref (ad 1)]) := by
      intro H locs ls x21 hk hw hl
      unfold wp_K_controlOne_j3 at hk
      obtain ⟨hz, hk⟩ := hk
      refine p_K_enabled hC hw hz m_2 d_K_controlOne_22 (fun H locs M22 e_M22 hw => ?_)
      have hk := hk M22 e_M22
      refine lv_goto (tgt := 81) hx hb d_K_controlOne_25 (by decide) ?_
      exact hj1 _ _ _ _ hk hw (lv_sub hl [0, 1, 2] rfl)
    refine lv_icmp_ne (tgt := 21) hx hb d_K_controlOne_14 (by decide) (fun hc => ?_) (fun hc => ?_)
    · have hk := hk.1 hc
      refine lv_iconst (v := 0) hx hb d_K_controlOne_21 (by decide) ?_
      exact hj3 _ _ _ _ hk hw (lv_sub hl [0, 1, 2] rfl)
    · have hk := hk.2 hc
      refine lv_iconst (v := 1) hx hb d_K_controlOne_17 (by decide) ?_
      refine lv_goto (tgt := 22) hx hb d_K_controlOne_18 (by decide) ?_
      exact hj3 _ _ _ _ hk hw (lv_sub hl [0, 1, 2] rfl)
set_option maxHeartbeats 4000000 in
set_option maxRecDepth 100000 in
theorem ct_K_controlTwo {l : Launch} {D : va_G} {cA : ClassId} {ad tb : Nat → Nat} (M0 : Mem) (a1 : Int32) (a2 : Int32) (Q : Mem → Prop) (hk : wp_K_controlTwo M0 a1 a2 Q) : Ct l y_K_controlTwo ws_K_controlTwo rm_K_controlTwo D (ceC ad cA) cA tb [.ref (ad 1), .int a1, .int a2] M0 (QV Q) := by
  refine Ct.of (own := "TileConsole$Cartridge") (cc := b_K_controlTwo) (maxL := 3) (ret := none) ceC_fix (by decide) rfl rfl (Nat.le_of_ble_eq_true rfl) ?_
  intro p e s m args below meth c A QQ ls H locs hQQ hC hr hlk hw hl
  have hx := hC.1.1
  have hb := hC.1.2.1
  unfold wp_K_controlTwo at hk
  have hl : lv_has ls 3 [(0, .ref (ad 1)), (1, .int a1), (2, .int a2)] := hl
  refine lv_iload_n hx hb d_K_controlTwo_0 rfl (lv_at hl 1 rfl) ?_
  refine lv_sipush (v := 16384) hx hb d_K_controlTwo_1 (by decide) ?_
  refine lv_icmp_lt (tgt := 8) hx hb d_K_controlTwo_4 (by decide) (fun hc => ?_) (fun hc => ?_)
  · have hk := hk.1 hc
    refine lv_iload_n hx hb d_K_controlTwo_8 rfl (lv_at hl 1 rfl) ?_
    refine lv_sipush (v := 256) hx hb d_K_controlTwo_9 (by decide) ?_
    refine lv_iand hx hb d_K_controlTwo_12 ?_
    have hj1 : ∀ (H : Heap) (locs : List Loc) (ls : Array Slot) (M10 : Mem), wp_K_controlTwo_j1 M10 Q → Wd D (ceC ad cA) A s H locs M10 → lv_has ls 3 [(0, .ref (ad 1)), (1, .int a1), (2, .int a2)] → W p l e rm_K_controlTwo s m args below meth c H locs 0 0 QQ (F0 m 56 ls []) := by
      intro H locs ls M10 hk hw hl
      unfold wp_K_controlTwo_j1 at hk
      exact rt_v hQQ hx hb hr hlk hw ⟨rfl, hk⟩ d_K_controlTwo_56
    refine lv_if_ne (tgt := 37) hx hb d_K_controlTwo_13 (by decide) (fun hc => ?_) (fun hc => ?_)
    · have hk := hk.1 hc
      refine lv_aload_n hx hb d_K_controlTwo_37 rfl (lv_at hl 0 rfl) ?_
      refine lv_iload_n hx hb d_K_controlTwo_38 rfl (lv_at hl 2 rfl) ?_
      refine lv_bipush (v := 15) hx hb d_K_controlTwo_39 (by decide) ?_
      refine lv_iand hx hb d_K_controlTwo_41 ?_
      have hj2 : ∀ (H : Heap) (locs : List Loc) (ls : Array Slot) (x13 : Int32), wp_K_controlTwo_j2 M0 x13 Q → Wd D (ceC ad cA) A s H locs M0 → lv_has ls 3 [(0, .ref (ad 1)), (1, .int a1), (2, .int a2)] → W p l e rm_K_controlTwo s m args below meth c H locs 0 0 QQ (F0 m 53 ls [.int x13, .ref (ad 1)]) := by
        intro H locs ls x13 hk hw hl
        unfold wp_K_controlTwo_j2 at hk
        refine p_K_romNumber hC hw m_4 d_K_controlTwo_53 (fun H locs M14 e_M14 hw => ?_)
        have hk := hk M14 e_M14
        exact hj1 _ _ _ _ hk hw (lv_sub hl [0, 1, 2] rfl)
      refine lv_if_ne (tgt := 49) hx hb d_K_controlTwo_42 (by decide) (fun hc => ?_) (fun hc => ?_)
      · have hk := hk.1 hc
        refine lv_iload_n hx hb d_K_controlTwo_49 rfl (lv_at hl 2 rfl) ?_
        refine lv_bipush (v := 15) hx hb d_K_controlTwo_50 (by decide) ?_
        refine lv_iand hx hb d_K_controlTwo_52 ?_
        exact hj2 _ _ _ _ hk hw (lv_sub hl [0, 1, 2] rfl)
      · have hk := hk.2 hc
        refine lv_iconst (v := 1) hx hb d_K_controlTwo_45 (by decide) ?_
        refine lv_goto (tgt := 53) hx hb d_K_controlTwo_46 (by decide) ?_
        exact hj2 _ _ _ _ hk hw (lv_sub hl [0, 1, 2] rfl)
    · have hk := hk.2 hc
      refine lv_aload_n hx hb d_K_controlTwo_16 rfl (lv_at hl 0 rfl) ?_
      refine lv_iload_n hx hb d_K_controlTwo_17 rfl (lv_at hl 2 rfl) ?_
      refine lv_bipush (v := 15) hx hb d_K_controlTwo_18 (by decide) ?_
      refine lv_iand hx hb d_K_controlTwo_20 ?_
      refine lv_bipush (v := 10) hx hb d_K_controlTwo_21 (by decide) ?_
      have hj3 : ∀ (H : Heap) (locs : List Loc) (ls : Array Slot) (x17 : Int32), wp_K_controlTwo_j3 M0 x17 Q → Wd D (ceC ad cA) A s H locs M0 → lv_has ls 3 [(0, .ref (ad 1)), (1, .int a1), (2, .int a2)] → W p l e rm_K_controlTwo s m args below meth c H locs 0 0 QQ (F0 m 31 ls [.int x17, .ref (ad 1)]) := by
        intro H locs ls x17 hk hw hl
        unfold wp_K_controlTwo_j3 at hk
        obtain ⟨hz, hk⟩ := hk
        refine p_K_enabled hC hw hz m_2 d_K_controlTwo_31 (fun H locs M18 e_M18 hw => ?_)
        have hk := hk M18 e_M18
        refine lv_goto (tgt := 56) hx hb d_K_controlTwo_34 (by decide) ?_
        exact hj1 _ _ _ _ hk hw (lv_sub hl [0, 1, 2] rfl)
      refine lv_icmp_ne (tgt := 30) hx hb d_K_controlTwo_23 (by decide) (fun hc => ?_) (fun hc => ?_)
      · have hk := hk.1 hc
        refine lv_iconst (v := 0) hx hb d_K_controlTwo_30 (by decide) ?_
        exact hj3 _ _ _ _ hk hw (lv_sub hl [0, 1, 2] rfl)
      · have hk := hk.2 hc
        refine lv_iconst (v := 1) hx hb d_K_controlTwo_26 (by decide) ?_
        refine lv_goto (tgt := 31) hx hb d_K_controlTwo_27 (by decide) ?_
        exact hj3 _ _ _ _ hk hw (lv_sub hl [0, 1, 2] rfl)
  · have hk := hk.2 hc
    exact rt_v hQQ hx hb hr hlk hw ⟨rfl, hk⟩ d_K_controlTwo_7
