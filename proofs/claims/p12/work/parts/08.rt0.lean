set_option maxHeartbeats 4000000 in
set_option maxRecDepth 100000 in
theorem ct_R_zeros3 {l : Launch} {D : va_G} {cA : ClassId} {ad tb : Nat → Nat} (M0 : Mem) (Q : Mem → Prop) (hk : wp_R_zeros3 M0 Q) : Ct l y_R_zeros ws_R_zeros rm_R_zeros D (ceR ad cA) cA tb [.ref (ad 3)] M0 (QV Q) := by
  refine Ct.of (own := "TileConsoleModel") (cc := b_R_zeros) (maxL := 2) (ret := none) ceR_fix (by decide) rfl rfl (Nat.le_of_ble_eq_true rfl) ?_
  intro p e s m args below meth c A QQ ls H locs hQQ hC hr hlk hw hl
  have hx := hC.1.1
  have hb := hC.1.2.1
  unfold wp_R_zeros3 at hk
  have hl : lv_has ls 2 [(0, .ref (ad 3))] := hl
  refine lv_iconst (v := 0) hx hb d_R_zeros_0 (by decide) ?_
  refine lv_istore_n (lv' := [(1, .int (0 : Int32)), (0, .ref (ad 3))]) hx hb d_R_zeros_1 rfl hl (by decide) rfl (fun ls hl => ?_)
  have hl1 : ∀ (n : Nat) (H : Heap) (locs : List Loc) (ls : Array Slot) (x1 : Int32) (M2 : Mem), wp_R_zeros3_l1 Q n x1 M2 → Wd D (ceR ad cA) A s H locs M2 → lv_has ls 2 [(0, .ref (ad 3)), (1, .int x1)] → W p l e rm_R_zeros s m args below meth c H locs 0 0 QQ (F0 m 2 ls []) := by
    intro n
    induction n with
    | zero => intro H locs ls x1 M2 hk; exact False.elim hk
    | succ n1 ih1 =>
      intro H locs ls x1 M2 hk hw hl
      refine lv_iload_n hx hb d_R_zeros_2 rfl (lv_at hl 1 rfl) ?_
      refine lv_aload_n hx hb d_R_zeros_3 rfl (lv_at hl 0 rfl) ?_
      refine r_al_3 hC hw d_R_zeros_4 ?_
      refine lv_icmp_ge (tgt := 18) hx hb d_R_zeros_5 (by decide) (fun hc => ?_) (fun hc => ?_)
      · have hk := hk.1 hc
        exact rt_v hQQ hx hb hr hlk hw ⟨rfl, hk⟩ d_R_zeros_18
      · have hk := hk.2 hc
        refine lv_aload_n hx hb d_R_zeros_8 rfl (lv_at hl 0 rfl) ?_
        refine lv_iload_n hx hb d_R_zeros_9 rfl (lv_at hl 1 rfl) ?_
        refine lv_iconst (v := 0) hx hb d_R_zeros_10 (by decide) ?_
        obtain ⟨hin, hk⟩ := hk
        refine r_st_3 hC hw hin rfl d_R_zeros_11 (fun H locs M3 e_M3 hw => ?_)
        have hk := hk M3 e_M3
        obtain ⟨x4, e_x4⟩ : ∃ y : Int32, y = x1 + (1 : Int32) := ⟨_, rfl⟩
        have hk := hk x4 e_x4
        refine lv_iinc (v := x4) (lv' := [(1, .int x4), (0, .ref (ad 3))]) hx hb d_R_zeros_12 hl (k := 1) rfl (by rw [e_x4]; rfl) (by decide) rfl (fun ls hl => ?_)
        refine lv_goto (tgt := 2) hx hb d_R_zeros_15 (by decide) ?_
        exact ih1 _ _ _ _ _ hk hw (lv_sub hl [1, 0] rfl)
  obtain ⟨n, hk⟩ := hk
  exact hl1 n _ _ _ _ _ hk hw (lv_sub hl [1, 0] rfl)
set_option maxHeartbeats 4000000 in
set_option maxRecDepth 100000 in
theorem ct_R_zeros4 {l : Launch} {D : va_G} {cA : ClassId} {ad tb : Nat → Nat} (M0 : Mem) (Q : Mem → Prop) (hk : wp_R_zeros4 M0 Q) : Ct l y_R_zeros ws_R_zeros rm_R_zeros D (ceR ad cA) cA tb [.ref (ad 4)] M0 (QV Q) := by
  refine Ct.of (own := "TileConsoleModel") (cc := b_R_zeros) (maxL := 2) (ret := none) ceR_fix (by decide) rfl rfl (Nat.le_of_ble_eq_true rfl) ?_
  intro p e s m args below meth c A QQ ls H locs hQQ hC hr hlk hw hl
  have hx := hC.1.1
  have hb := hC.1.2.1
  unfold wp_R_zeros4 at hk
  have hl : lv_has ls 2 [(0, .ref (ad 4))] := hl
  refine lv_iconst (v := 0) hx hb d_R_zeros_0 (by decide) ?_
  refine lv_istore_n (lv' := [(1, .int (0 : Int32)), (0, .ref (ad 4))]) hx hb d_R_zeros_1 rfl hl (by decide) rfl (fun ls hl => ?_)
  have hl1 : ∀ (n : Nat) (H : Heap) (locs : List Loc) (ls : Array Slot) (x1 : Int32) (M2 : Mem), wp_R_zeros4_l1 Q n x1 M2 → Wd D (ceR ad cA) A s H locs M2 → lv_has ls 2 [(0, .ref (ad 4)), (1, .int x1)] → W p l e rm_R_zeros s m args below meth c H locs 0 0 QQ (F0 m 2 ls []) := by
    intro n
    induction n with
    | zero => intro H locs ls x1 M2 hk; exact False.elim hk
    | succ n1 ih1 =>
      intro H locs ls x1 M2 hk hw hl
      refine lv_iload_n hx hb d_R_zeros_2 rfl (lv_at hl 1 rfl) ?_
      refine lv_aload_n hx hb d_R_zeros_3 rfl (lv_at hl 0 rfl) ?_
      refine r_al_4 hC hw d_R_zeros_4 ?_
      refine lv_icmp_ge (tgt := 18) hx hb d_R_zeros_5 (by decide) (fun hc => ?_) (fun hc => ?_)
      · have hk := hk.1 hc
        exact rt_v hQQ hx hb hr hlk hw ⟨rfl, hk⟩ d_R_zeros_18
      · have hk := hk.2 hc
        refine lv_aload_n hx hb d_R_zeros_8 rfl (lv_at hl 0 rfl) ?_
        refine lv_iload_n hx hb d_R_zeros_9 rfl (lv_at hl 1 rfl) ?_
        refine lv_iconst (v := 0) hx hb d_R_zeros_10 (by decide) ?_
        obtain ⟨hin, hk⟩ := hk
        refine r_st_4 hC hw hin rfl d_R_zeros_11 (fun H locs M3 e_M3 hw => ?_)
        have hk := hk M3 e_M3
        obtain ⟨x4, e_x4⟩ : ∃ y : Int32, y = x1 + (1 : Int32) := ⟨_, rfl⟩
        have hk := hk x4 e_x4
        refine lv_iinc (v := x4) (lv' := [(1, .int x4), (0, .ref (ad 4))]) hx hb d_R_zeros_12 hl (k := 1) rfl (by rw [e_x4]; rfl) (by decide) rfl (fun ls hl => ?_)
        refine lv_goto (tgt := 2) hx hb d_R_zeros_15 (by decide) ?_
        exact ih1 _ _ _ _ _ hk hw (lv_sub hl [1, 0] rfl)
  obtain ⟨n, hk⟩ := hk
  exact hl1 n _ _ _ _ _ hk hw (lv_sub hl [1, 0] rfl)
set_option maxHeartbeats 4000000 in
set_option maxRecDepth 100000 in
theorem ct_R_zeros5 {l : Launch} {D : va_G} {cA : ClassId} {ad tb : Nat → Nat} (M0 : Mem) (Q : Mem → Prop) (hk : wp_R_zeros5 M0 Q) : Ct l y_R_zeros ws_R_zeros rm_R_zeros D (ceR ad cA) cA tb [.ref (ad 5)] M0 (QV Q) := by
  refine Ct.of (own := "TileConsoleModel") (cc := b_R_zeros) (maxL := 2) (ret := none) ceR_fix (by decide) rfl rfl (Nat.le_of_ble_eq_true rfl) ?_
  intro p e s m args below meth c A QQ ls H locs hQQ hC hr hlk hw hl
  have hx := hC.1.1
  have hb := hC.1.2.1
  unfold wp_R_zeros5 at hk
  have hl : lv_has ls 2 [(0, .ref (ad 5))] := hl
  refine lv_iconst (v := 0) hx hb d_R_zeros_0 (by decide) ?_
  refine lv_istore_n (lv' := [(1, .int (0 : Int32)), (0, .ref (ad 5))]) hx hb d_R_zeros_1 rfl hl (by decide) rfl (fun ls hl => ?_)
  have hl1 : ∀ (n : Nat) (H : Heap) (locs : List Loc) (ls : Array Slot) (x1 : Int32) (M2 : Mem), wp_R_zeros5_l1 Q n x1 M2 → Wd D (ceR ad cA) A s H locs M2 → lv_has ls 2 [(0, .ref (ad 5)), (1, .int x1)] → W p l e rm_R_zeros s m args below meth c H locs 0 0 QQ (F0 m 2 ls []) := by
    intro n
    induction n with
    | zero => intro H locs ls x1 M2 hk; exact False.elim hk
    | succ n1 ih1 =>
      intro H locs ls x1 M2 hk hw hl
      refine lv_iload_n hx hb d_R_zeros_2 rfl (lv_at hl 1 rfl) ?_
      refine lv_aload_n hx hb d_R_zeros_3 rfl (lv_at hl 0 rfl) ?_
      refine r_al_5 hC hw d_R_zeros_4 ?_
      refine lv_icmp_ge (tgt := 18) hx hb d_R_zeros_5 (by decide) (fun hc => ?_) (fun hc => ?_)
      · have hk := hk.1 hc
        exact rt_v hQQ hx hb hr hlk hw ⟨rfl, hk⟩ d_R_zeros_18
      · have hk := hk.2 hc
        refine lv_aload_n hx hb d_R_zeros_8 rfl (lv_at hl 0 rfl) ?_
        refine lv_iload_n hx hb d_R_zeros_9 rfl (lv_at hl 1 rfl) ?_
        refine lv_iconst (v := 0) hx hb d_R_zeros_10 (by decide) ?_
        obtain ⟨hin, hk⟩ := hk
        refine r_st_5 hC hw hin rfl d_R_zeros_11 (fun H locs M3 e_M3 hw => ?_)
        have hk := hk M3 e_M3
        obtain ⟨x4, e_x4⟩ : ∃ y : Int32, y = x1 + (1 : Int32) := ⟨_, rfl⟩
        have hk := hk x4 e_x4
        refine lv_iinc (v := x4) (lv' := [(1, .int x4), (0, .ref (ad 5))]) hx hb d_R_zeros_12 hl (k := 1) rfl (by rw [e_x4]; rfl) (by decide) rfl (fun ls hl => ?_)
        refine lv_goto (tgt := 2) hx hb d_R_zeros_15 (by decide) ?_
        exact ih1 _ _ _ _ _ hk hw (lv_sub hl [1, 0] rfl)
  obtain ⟨n, hk⟩ := hk
  exact hl1 n _ _ _ _ _ hk hw (lv_sub hl [1, 0] rfl)
set_option maxHeartbeats 4000000 in
set_option maxRecDepth 100000 in
theorem ct_R_zeros6 {l : Launch} {D : va_G} {cA : ClassId} {ad tb : Nat → Nat} (M0 : Mem) (Q : Mem → Prop) (hk : wp_R_zeros6 M0 Q) : Ct l y_R_zeros ws_R_zeros rm_R_zeros D (ceR ad cA) cA tb [.ref (ad 6)] M0 (QV Q) := by
  refine Ct.of (own := "TileConsoleModel") (cc := b_R_zeros) (maxL := 2) (ret := none) ceR_fix (by decide) rfl rfl (Nat.le_of_ble_eq_true rfl) ?_
  intro p e s m args below meth c A QQ ls H locs hQQ hC hr hlk hw hl
  have hx := hC.1.1
  have hb := hC.1.2.1
  unfold wp_R_zeros6 at hk
  have hl : lv_has ls 2 [(0, .ref (ad 6))] := hl
  refine lv_iconst (v := 0) hx hb d_R_zeros_0 (by decide) ?_
  refine lv_istore_n (lv' := [(1, .int (0 : Int32)), (0, .ref (ad 6))]) hx hb d_R_zeros_1 rfl hl (by decide) rfl (fun ls hl => ?_)
  have hl1 : ∀ (n : Nat) (H : Heap) (locs : List Loc) (ls : Array Slot) (x1 : Int32) (M2 : Mem), wp_R_zeros6_l1 Q n x1 M2 → Wd D (ceR ad cA) A s H locs M2 → lv_has ls 2 [(0, .ref (ad 6)), (1, .int x1)] → W p l e rm_R_zeros s m args below meth c H locs 0 0 QQ (F0 m 2 ls []) := by
    intro n
    induction n with
    | zero => intro H locs ls x1 M2 hk; exact False.elim hk
    | succ n1 ih1 =>
      intro H locs ls x1 M2 hk hw hl
      refine lv_iload_n hx hb d_R_zeros_2 rfl (lv_at hl 1 rfl) ?_
      refine lv_aload_n hx hb d_R_zeros_3 rfl (lv_at hl 0 rfl) ?_
      refine r_al_6 hC hw d_R_zeros_4 ?_
      refine lv_icmp_ge (tgt := 18) hx hb d_R_zeros_5 (by decide) (fun hc => ?_) (fun hc => ?_)
      · have hk := hk.1 hc
        exact rt_v hQQ hx hb hr hlk hw ⟨rfl, hk⟩ d_R_zeros_18
      · have hk := hk.2 hc
        refine lv_aload_n hx hb d_R_zeros_8 rfl (lv_at hl 0 rfl) ?_
        refine lv_iload_n hx hb d_R_zeros_9 rfl (lv_at hl 1 rfl) ?_
        refine lv_iconst (v := 0) hx hb d_R_zeros_10 (by decide) ?_
        obtain ⟨hin, hk⟩ := hk
        refine r_st_6 hC hw hin rfl d_R_zeros_11 (fun H locs M3 e_M3 hw => ?_)
        have hk := hk M3 e_M3
        obtain ⟨x4, e_x4⟩ : ∃ y : Int32, y = x1 + (1 : Int32) := ⟨_, rfl⟩
        have hk := hk x4 e_x4
        refine lv_iinc (v := x4) (lv' := [(1, .int x4), (0, .ref (ad 6))]) hx hb d_R_zeros_12 hl (k := 1) rfl (by rw [e_x4]; rfl) (by decide) rfl (fun ls hl => ?_)
        refine lv_goto (tgt := 2) hx hb d_R_zeros_15 (by decide) ?_
        exact ih1 _ _ _ _ _ hk hw (lv_sub hl [1, 0] rfl)
  obtain ⟨n, hk⟩ := hk
  exact hl1 n _ _ _ _ _ hk hw (lv_sub hl [1, 0] rfl)
set_option maxHeartbeats 4000000 in
set_option maxRecDepth 100000 in
theorem ct_R_zeros7 {l : Launch} {D : va_G} {cA : ClassId} {ad tb : Nat → Nat} (M0 : Mem) (Q : Mem → Prop) (hk : wp_R_zeros7 M0 Q) : Ct l y_R_zeros ws_R_zeros rm_R_zeros D (ceR ad cA) cA tb [.ref (ad 7)] M0 (QV Q) := by
  refine Ct.of (own := "TileConsoleModel") (cc := b_R_zeros) (maxL := 2) (ret := none) ceR_fix (by decide) rfl rfl (Nat.le_of_ble_eq_true rfl) ?_
  intro p e s m args below meth c A QQ ls H locs hQQ hC hr hlk hw hl
  have hx := hC.1.1
  have hb := hC.1.2.1
  unfold wp_R_zeros7 at hk
  have hl : lv_has ls 2 [(0, .ref (ad 7))] := hl
  refine lv_iconst (v := 0) hx hb d_R_zeros_0 (by decide) ?_
  refine lv_istore_n (lv' := [(1, .int (0 : Int32)), (0, .ref (ad 7))]) hx hb d_R_zeros_1 rfl hl (by decide) rfl (fun ls hl => ?_)
  have hl1 : ∀ (n : Nat) (H : Heap) (locs : List Loc) (ls : Array Slot) (x1 : Int32) (M2 : Mem), wp_R_zeros7_l1 Q n x1 M2 → Wd D (ceR ad cA) A s H locs M2 → lv_has ls 2 [(0, .ref (ad 7)), (1, .int x1)] → W p l e rm_R_zeros s m args below meth c H locs 0 0 QQ (F0 m 2 ls []) := by
    intro n
    induction n with
    | zero => intro H locs ls x1 M2 hk; exact False.elim hk
    | succ n1 ih1 =>
      intro H locs ls x1 M2 hk hw hl
      refine lv_iload_n hx hb d_R_zeros_2 rfl (lv_at hl 1 rfl) ?_
      refine lv_aload_n hx hb d_R_zeros_3 rfl (lv_at hl 0 rfl) ?_
      refine r_al_7 hC hw d_R_zeros_4 ?_
      refine lv_icmp_ge (tgt := 18) hx hb d_R_zeros_5 (by decide) (fun hc => ?_) (fun hc => ?_)
      · have hk := hk.1 hc
        exact rt_v hQQ hx hb hr hlk hw ⟨rfl, hk⟩ d_R_zeros_18
      · have hk := hk.2 hc
        refine lv_aload_n hx hb d_R_zeros_8 rfl (lv_at hl 0 rfl) ?_
        refine lv_iload_n hx hb d_R_zeros_9 rfl (lv_at hl 1 rfl) ?_
        refine lv_iconst (v := 0) hx hb d_R_zeros_10 (by decide) ?_
        obtain ⟨hin, hk⟩ := hk
        refine r_st_7 hC hw hin rfl d_R_zeros_11 (fun H locs M3 e_M3 hw => ?_)
        have hk := hk M3 e_M3
        obtain ⟨x4, e_x4⟩ : ∃ y : Int32, y = x1 + (1 : Int32) := ⟨_, rfl⟩
        have hk := hk x4 e_x4
        refine lv_iinc (v := x4) (lv' := [(1, .int x4), (0, .ref (ad 7))]) hx hb d_R_zeros_12 hl (k := 1) rfl (by rw [e_x4]; rfl) (by decide) rfl (fun ls hl => ?_)
        refine lv_goto (tgt := 2) hx hb d_R_zeros_15 (by decide) ?_
        exact ih1 _ _ _ _ _ hk hw (lv_sub hl [1, 0] rfl)
  obtain ⟨n, hk⟩ := hk
  exact hl1 n _ _ _ _ _ hk hw (lv_sub hl [1, 0] rfl)
set_option maxHeartbeats 4000000 in
set_option maxRecDepth 100000 in
theorem ct_R_reset {l : Launch} {D : va_G} {cA : ClassId} {ad tb : Nat → Nat} (M0 : Mem) (Q : Mem → Prop) (hk : wp_R_reset M0 Q) : Ct l y_R_reset ws_R_reset rm_R_reset D (ceR ad cA) cA tb [.ref (ad 0)] M0 (QV Q) := by
  refine Ct.of (own := "TileConsoleModel") (cc := b_R_reset) (maxL := 1) (ret := none) ceR_fix (by decide) rfl rfl (Nat.le_of_ble_eq_true rfl) ?_
  intro p e s m args below meth c A QQ ls H locs hQQ hC hr hlk hw hl
  have hx := hC.1.1
  have hb := hC.1.2.1
  unfold wp_R_reset at hk
  have hl : lv_has ls 1 [(0, .ref (ad 0))] := hl
  refine lv_aload_n hx hb d_R_reset_0 rfl (lv_at hl 0 rfl) ?_
  refine g_R_video hC hw q_0 d_R_reset_1 ?_
  refine cl_Sv (As := [.ref (ad 3)]) hC hw (ct_R_zeros3 _  _ hk) q_1 mw_R_zeros rfl ⟨rfl, rfl, Nat.le_of_ble_eq_true rfl, Nat.le_of_ble_eq_true rfl⟩ rfl hl.1 rfl (Nat.le_of_ble_eq_true rfl) d_R_reset_4 (fun H locs M1 hk hw => ?_)
  refine lv_aload_n hx hb d_R_reset_7 rfl (lv_at hl 0 rfl) ?_
  refine g_R_work hC hw q_2 d_R_reset_8 ?_
  refine cl_Sv (As := [.ref (ad 4)]) hC hw (ct_R_zeros4 _  _ hk) q_1 mw_R_zeros rfl ⟨rfl, rfl, Nat.le_of_ble_eq_true rfl, Nat.le_of_ble_eq_true rfl⟩ rfl hl.1 rfl (Nat.le_of_ble_eq_true rfl) d_R_reset_11 (fun H locs M2 hk hw => ?_)
  refine lv_aload_n hx hb d_R_reset_14 rfl (lv_at hl 0 rfl) ?_
  refine g_R_sprites hC hw q_3 d_R_reset_15 ?_
  refine cl_Sv (As := [.ref (ad 5)]) hC hw (ct_R_zeros5 _  _ hk) q_1 mw_R_zeros rfl ⟨rfl, rfl, Nat.le_of_ble_eq_true rfl, Nat.le_of_ble_eq_true rfl⟩ rfl hl.1 rfl (Nat.le_of_ble_eq_true rfl) d_R_reset_18 (fun H locs M3 hk hw => ?_)
  refine lv_aload_n hx hb d_R_reset_21 rfl (lv_at hl 0 rfl) ?_
  refine g_R_top hC hw q_4 d_R_reset_22 ?_
  refine cl_Sv (As := [.ref (ad 6)]) hC hw (ct_R_zeros6 _  _ hk) q_1 mw_R_zeros rfl ⟨rfl, rfl, Nat.le_of_ble_eq_true rfl, Nat.le_of_ble_eq_true rfl⟩ rfl hl.1 rfl (Nat.le_of_ble_eq_true rfl) d_R_reset_25 (fun H locs M4 hk hw => ?_)
  refine lv_aload_n hx hb d_R_reset_28 rfl (lv_at hl 0 rfl) ?_
  refine g_R_line hC hw q_5 d_R_reset_29 ?_
  refine cl_Sv (As := [.ref (ad 7)]) hC hw (ct_R_zeros7 _  _ hk) q_1 mw_R_zeros rfl ⟨rfl, rfl, Nat.le_of_ble_eq_true rfl, Nat.le_of_ble_eq_true rfl⟩ rfl hl.1 rfl (Nat.le_of_ble_eq_true rfl) d_R_reset_32 (fun H locs M5 hk hw => ?_)
  refine lv_aload_n hx hb d_R_reset_35 rfl (lv_at hl 0 rfl) ?_
  refine lv_iconst (v := 0) hx hb d_R_reset_36 (by decide) ?_
  refine p_R_isOn hC hw (Or.inl rfl) q_6 d_R_reset_37 (fun H locs M6 e_M6 hw => ?_)
  have hk := hk M6 e_M6
  refine lv_aload_n hx hb d_R_reset_40 rfl (lv_at hl 0 rfl) ?_
  refine lv_iconst (v := 1) hx hb d_R_reset_41 (by decide) ?_
  refine p_R_numberA hC hw q_7 d_R_reset_42 (fun H locs M7 e_M7 hw => ?_)
  have hk := hk M7 e_M7
  refine lv_aload_n hx hb d_R_reset_45 rfl (lv_at hl 0 rfl) ?_
  refine lv_iconst (v := 0) hx hb d_R_reset_46 (by decide) ?_
  refine p_R_numberB hC hw q_8 d_R_reset_47 (fun H locs M8 e_M8 hw => ?_)
  have hk := hk M8 e_M8
  refine lv_aload_n hx hb d_R_reset_50 rfl (lv_at hl 0 rfl) ?_
  refine lv_iconst (v := 0) hx hb d_R_reset_51 (by decide) ?_
  refine p_R_mode hC hw q_9 d_R_reset_52 (fun H locs M9 e_M9 hw => ?_)
  have hk := hk M9 e_M9
  refine lv_aload_n hx hb d_R_reset_55 rfl (lv_at hl 0 rfl) ?_
  refine lv_iconst (v := 1) hx hb d_R_reset_56 (by decide) ?_
  refine p_R_numberN hC hw q_10 d_R_reset_57 (fun H locs M10 e_M10 hw => ?_)
  have hk := hk M10 e_M10
  refine lv_aload_n hx hb d_R_reset_60 rfl (lv_at hl 0 rfl) ?_
  refine lv_iconst (v := 0) hx hb d_R_reset_61 (by decide) ?_
  refine p_R_bankOfRam hC hw q_11 d_R_reset_62 (fun H locs M11 e_M11 hw => ?_)
  have hk := hk M11 e_M11
  refine lv_aload_n hx hb d_R_reset_65 rfl (lv_at hl 0 rfl) ?_
  refine lv_iconst (v := 1) hx hb d_R_reset_66 (by decide) ?_
  refine p_R_bankTwo hC hw q_12 d_R_reset_67 (fun H locs M12 e_M12 hw => ?_)
  have hk := hk M12 e_M12
  refine lv_aload_n hx hb d_R_reset_70 rfl (lv_at hl 0 rfl) ?_
  refine g_R_r hC hw q_13 d_R_reset_71 ?_
  refine lv_bipush (v := 7) hx hb d_R_reset_74 (by decide) ?_
  refine lv_iconst (v := 1) hx hb d_R_reset_76 (by decide) ?_
  refine r_st_8 (k := 7) hC hw (vin_lit rfl) (by decide) d_R_reset_77 (fun H locs M13 e_M13 hw => ?_)
  have hk := hk M13 e_M13
  refine lv_aload_n hx hb d_R_reset_78 rfl (lv_at hl 0 rfl) ?_
  refine g_R_r hC hw q_13 d_R_reset_79 ?_
  refine lv_bipush (v := 6) hx hb d_R_reset_82 (by decide) ?_
  refine lv_sipush (v := 176) hx hb d_R_reset_84 (by decide) ?_
  refine r_st_8 (k := 6) hC hw (vin_lit rfl) (by decide) d_R_reset_87 (fun H locs M14 e_M14 hw => ?_)
  have hk := hk M14 e_M14
  refine lv_aload_n hx hb d_R_reset_88 rfl (lv_at hl 0 rfl) ?_
  refine g_R_r hC hw q_13 d_R_reset_89 ?_
  refine lv_iconst (v := 0) hx hb d_R_reset_92 (by decide) ?_
  refine lv_iconst (v := 0) hx hb d_R_reset_93 (by decide) ?_
  refine r_st_8 (k := 0) hC hw (vin_lit rfl) (by decide) d_R_reset_94 (fun H locs M15 e_M15 hw => ?_)
  have hk := hk M15 e_M15
  refine lv_aload_n hx hb d_R_reset_95 rfl (lv_at hl 0 rfl) ?_
  refine g_R_r hC hw q_13 d_R_reset_96 ?_
  refine lv_iconst (v := 1) hx hb d_R_reset_99 (by decide) ?_
  refine lv_bipush (v := 19) hx hb d_R_reset_100 (by decide) ?_
  refine r_st_8 (k := 1) hC hw (vin_lit rfl) (by decide) d_R_reset_102 (fun H locs M16 e_M16 hw => ?_)
  have hk := hk M16 e_M16
  refine lv_aload_n hx hb d_R_reset_103 rfl (lv_at hl 0 rfl) ?_
  refine g_R_r hC hw q_13 d_R_reset_104 ?_
  refine lv_iconst (v := 2) hx hb d_R_reset_107 (by decide) ?_
  refine lv_iconst (v := 0) hx hb d_R_reset_108 (by decide) ?_
  refine r_st_8 (k := 2) hC hw (vin_lit rfl) (by decide) d_R_reset_109 (fun H locs M17 e_M17 hw => ?_)
  have hk := hk M17 e_M17
  refine lv_aload_n hx hb d_R_reset_110 rfl (lv_at hl 0 rfl) ?_
  refine g_R_r hC hw q_13 d_R_reset_111 ?_
  refine lv_iconst (v := 3) hx hb d_R_reset_114 (by decide) ?_
  refine lv_sipush (v := 216) hx hb d_R_reset_115 (by decide) ?_
  refine r_st_8 (k := 3) hC hw (vin_lit rfl) (by decide) d_R_reset_118 (fun H locs M18 e_M18 hw => ?_)
  have hk := hk M18 e_M18
  refine lv_aload_n hx hb d_R_reset_119 rfl (lv_at hl 0 rfl) ?_
  refine g_R_r hC hw q_13 d_R_reset_120 ?_
  refine lv_iconst (v := 4) hx hb d_R_reset_123 (by decide) ?_
  refine lv_iconst (v := 1) hx hb d_R_reset_124 (by decide) ?_
  refine r_st_8 (k := 4) hC hw (vin_lit rfl) (by decide) d_R_reset_125 (fun H locs M19 e_M19 hw => ?_)
  have hk := hk M19 e_M19
  refine lv_aload_n hx hb d_R_reset_126 rfl (lv_at hl 0 rfl) ?_
  refine g_R_r hC hw q_13 d_R_reset_127 ?_
  refine lv_iconst (v := 5) hx hb d_R_reset_130 (by decide) ?_
  refine lv_bipush (v := 77) hx hb d_R_reset_131 (by decide) ?_
  refine r_st_8 (k := 5) hC hw (vin_lit rfl) (by decide) d_R_reset_133 (fun H locs M20 e_M20 hw => ?_)
  have hk := hk M20 e_M20
  refine lv_aload_n hx hb d_R_reset_134 rfl (lv_at hl 0 rfl) ?_
  refine lv_ldc (v := (65534 : Int32)) hx hb hC.1.2.2.2.1 (hC.1.2.2.2.2 _ q_14) d_R_reset_135 ?_
  refine p_R_sp hC hw q_15 d_R_reset_137 (fun H locs M21 e_M21 hw => ?_)
  have hk := hk M21 e_M21
  refine lv_aload_n hx hb d_R_reset_140 rfl (lv_at hl 0 rfl) ?_
  refine lv_sipush (v := 256) hx hb d_R_reset_141 (by decide) ?_
  refine p_R_pc hC hw q_16 d_R_reset_144 (fun H locs M22 e_M22 hw => ?_)
  have hk := hk M22 e_M22
  refine lv_aload_n hx hb d_R_reset_147 rfl (lv_at hl 0 rfl) ?_
  refine lv_iconst (v := 0) hx hb d_R_reset_148 (by decide) ?_
  refine p_R_ime hC hw (Or.inl rfl) q_17 d_R_reset_149 (fun H locs M23 e_M23 hw => ?_)
  have hk := hk M23 e_M23
  refine lv_aload_n hx hb d_R_reset_152 rfl (lv_at hl 0 rfl) ?_
  refine lv_iconst (v := 0) hx hb d_R_reset_153 (by decide) ?_
  refine p_R_halts hC hw (Or.inl rfl) q_18 d_R_reset_154 (fun H locs M24 e_M24 hw => ?_)
  have hk := hk M24 e_M24
  refine lv_aload_n hx hb d_R_reset_157 rfl (lv_at hl 0 rfl) ?_
  refine lv_iconst (v := 0) hx hb d_R_reset_158 (by decide) ?_
  refine p_R_locked hC hw (Or.inl rfl) q_19 d_R_reset_159 (fun H locs M25 e_M25 hw => ?_)
  have hk := hk M25 e_M25
  refine lv_aload_n hx hb d_R_reset_162 rfl (lv_at hl 0 rfl) ?_
  refine lv_iconst (v := 0) hx hb d_R_reset_163 (by decide) ?_
  refine p_R_soon hC hw (Or.inl rfl) q_20 d_R_reset_164 (fun H locs M26 e_M26 hw => ?_)
  have hk := hk M26 e_M26
  refine lv_aload_n hx hb d_R_reset_167 rfl (lv_at hl 0 rfl) ?_
  refine lv_iconst (v := 0) hx hb d_R_reset_168 (by decide) ?_
  refine p_R_keysAsked hC hw q_21 d_R_reset_169 (fun H locs M27 e_M27 hw => ?_)
  have hk := hk M27 e_M27
  refine lv_aload_n hx hb d_R_reset_172 rfl (lv_at hl 0 rfl) ?_
  refine lv_iconst (v := 0) hx hb d_R_reset_173 (by decide) ?_
  refine p_R_s hC hw q_22 d_R_reset_174 (fun H locs M28 e_M28 hw => ?_)
  have hk := hk M28 e_M28
  refine lv_aload_n hx hb d_R_reset_177 rfl (lv_at hl 0 rfl) ?_
  refine lv_iconst (v := 0) hx hb d_R_reset_178 (by decide) ?_
  refine p_R_tima hC hw q_23 d_R_reset_179 (fun H locs M29 e_M29 hw => ?_)
  have hk := hk M29 e_M29
  refine lv_aload_n hx hb d_R_reset_182 rfl (lv_at hl 0 rfl) ?_
  refine lv_iconst (v := 0) hx hb d_R_reset_183 (by decide) ?_
  refine p_R_tma hC hw q_24 d_R_reset_184 (fun H locs M30 e_M30 hw => ?_)
  have hk := hk M30 e_M30
  refine lv_aload_n hx hb d_R_reset_187 rfl (lv_at hl 0 rfl) ?_
  refine lv_iconst (v := 0) hx hb d_R_reset_188 (by decide) ?_
  refine p_R_tac hC hw q_25 d_R_reset_189 (fun H locs M31 e_M31 hw => ?_)
  have hk := hk M31 e_M31
  refine lv_aload_n hx hb d_R_reset_192 rfl (lv_at hl 0 rfl) ?_
  refine lv_iconst (v := 1) hx hb d_R_reset_193 (by decide) ?_
  refine p_R_flags hC hw q_26 d_R_reset_194 (fun H locs M32 e_M32 hw => ?_)
  have hk := hk M32 e_M32
  refine lv_aload_n hx hb d_R_reset_197 rfl (lv_at hl 0 rfl) ?_
  refine lv_iconst (v := 0) hx hb d_R_reset_198 (by decide) ?_
  refine p_R_enabled hC hw q_27 d_R_reset_199 (fun H locs M33 e_M33 hw => ?_)
  have hk := hk M33 e_M33
  refine lv_aload_n hx hb d_R_reset_202 rfl (lv_at hl 0 rfl) ?_
  refine lv_sipush (v := 145) hx hb d_R_reset_203 (by decide) ?_
  refine p_R_lcdc hC hw q_28 d_R_reset_206 (fun H locs M34 e_M34 hw => ?_)
  have hk := hk M34 e_M34
  refine lv_aload_n hx hb d_R_reset_209 rfl (lv_at hl 0 rfl) ?_
  refine lv_iconst (v := 0) hx hb d_R_reset_210 (by decide) ?_
  refine p_R_stat hC hw q_29 d_R_reset_211 (fun H locs M35 e_M35 hw => ?_)
  have hk := hk M35 e_M35
  refine lv_aload_n hx hb d_R_reset_214 rfl (lv_at hl 0 rfl) ?_
  refine lv_iconst (v := 0) hx hb d_R_reset_215 (by decide) ?_
  refine p_R_scy hC hw q_30 d_R_reset_216 (fun H locs M36 e_M36 hw => ?_)
  have hk := hk M36 e_M36
  refine lv_aload_n hx hb d_R_reset_219 rfl (lv_at hl 0 rfl) ?_
  refine lv_iconst (v := 0) hx hb d_R_reset_220 (by decide) ?_
  refine p_R_scx hC hw q_31 d_R_reset_221 (fun H locs M37 e_M37 hw => ?_)
  have hk := hk M37 e_M37
  refine lv_aload_n hx hb d_R_reset_224 rfl (lv_at hl 0 rfl) ?_
  refine lv_iconst (v := 0) hx hb d_R_reset_225 (by decide) ?_
  refine p_R_ly hC hw q_32 d_R_reset_226 (fun H locs M38 e_M38 hw => ?_)
  have hk := hk M38 e_M38
  refine lv_aload_n hx hb d_R_reset_229 rfl (lv_at hl 0 rfl) ?_
  refine lv_iconst (v := 0) hx hb d_R_reset_230 (by decide) ?_
  refine p_R_lyc hC hw q_33 d_R_reset_231 (fun H locs M39 e_M39 hw => ?_)
  have hk := hk M39 e_M39
  refine lv_aload_n hx hb d_R_reset_234 rfl (lv_at hl 0 rfl) ?_
  refine lv_iconst (v := 0) hx hb d_R_reset_235 (by decide) ?_
  refine p_R_dma hC hw q_34 d_R_reset_236 (fun H locs M40 e_M40 hw => ?_)
  have hk := hk M40 e_M40
  refine lv_aload_n hx hb d_R_reset_239 rfl (lv_at hl 0 rfl) ?_
  refine lv_sipush (v := 252) hx hb d_R_reset_240 (by decide) ?_
  refine p_R_bgp hC hw q_35 d_R_reset_243 (fun H locs M41 e_M41 hw => ?_)
  have hk := hk M41 e_M41
  refine lv_aload_n hx hb d_R_reset_246 rfl (lv_at hl 0 rfl) ?_
  refine lv_iconst (v := 0) hx hb d_R_reset_247 (by decide) ?_
  refine p_R_obp0 hC hw q_36 d_R_reset_248 (fun H locs M42 e_M42 hw => ?_)
  have hk := hk M42 e_M42
  refine lv_aload_n hx hb d_R_reset_251 rfl (lv_at hl 0 rfl) ?_
  refine lv_iconst (v := 0) hx hb d_R_reset_252 (by decide) ?_
  refine p_R_obp1 hC hw q_37 d_R_reset_253 (fun H locs M43 e_M43 hw => ?_)
  have hk := hk M43 e_M43
  refine lv_aload_n hx hb d_R_reset_256 rfl (lv_at hl 0 rfl) ?_
  refine lv_iconst (v := 0) hx hb d_R_reset_257 (by decide) ?_
  refine p_R_wy hC hw q_38 d_R_reset_258 (fun H locs M44 e_M44 hw => ?_)
  have hk := hk M44 e_M44
  refine lv_aload_n hx hb d_R_reset_261 rfl (lv_at hl 0 rfl) ?_
  refine lv_iconst (v := 0) hx hb d_R_reset_262 (by decide) ?_
  refine p_R_wx hC hw q_39 d_R_reset_263 (fun H locs M45 e_M45 hw => ?_)
  have hk := hk M45 e_M45
  refine lv_aload_n hx hb d_R_reset_266 rfl (lv_at hl 0 rfl) ?_
  refine lv_iconst (v := 0) hx hb d_R_reset_267 (by decide) ?_
  refine p_R_dot hC hw q_40 d_R_reset_268 (fun H locs M46 e_M46 hw => ?_)
  have hk := hk M46 e_M46
  refine lv_aload_n hx hb d_R_reset_271 rfl (lv_at hl 0 rfl) ?_
  refine lv_iconst (v := 0) hx hb d_R_reset_272 (by decide) ?_
  refine p_R_signal hC hw (Or.inl rfl) q_41 d_R_reset_273 (fun H locs M47 e_M47 hw => ?_)
  have hk := hk M47 e_M47
  refine lv_aload_n hx hb d_R_reset_276 rfl (lv_at hl 0 rfl) ?_
  refine lv_iconst (v := 0) hx hb d_R_reset_277 (by decide) ?_
  refine p_R_cycles hC hw q_42 d_R_reset_278 (fun H locs M48 e_M48 hw => ?_)
  have hk := hk M48 e_M48
  refine lv_aload_n hx hb d_R_reset_281 rfl (lv_at hl 0 rfl) ?_
  refine lv_iconst (v := 0) hx hb d_R_reset_282 (by decide) ?_
  refine p_R_instructions hC hw q_43 d_R_reset_283 (fun H locs M49 e_M49 hw => ?_)
  have hk := hk M49 e_M49
  refine lv_aload_n hx hb d_R_reset_286 rfl (lv_at hl 0 rfl) ?_
  refine lv_iconst (v := 0) hx hb d_R_reset_287 (by decide) ?_
  refine p_R_interrupts hC hw q_44 d_R_reset_288 (fun H locs M50 e_M50 hw => ?_)
  have hk := hk M50 e_M50
  refine lv_aload_n hx hb d_R_reset_291 rfl (lv_at hl 0 rfl) ?_
  refine lv_iconst (v := 0) hx hb d_R_reset_292 (by decide) ?_
  refine p_R_frames hC hw q_45 d_R_reset_293 (fun H locs M51 e_M51 hw => ?_)
  have hk := hk M51 e_M51
  exact rt_v hQQ hx hb hr hlk hw ⟨rfl, hk⟩ d_R_reset_296
set_option maxHeartbeats 4000000 in
set_option maxRecDepth 100000 in
theorem ct_R_thrown {l : Launch} {D : va_G} {cA : ClassId} {ad tb : Nat → Nat} (M0 : Mem) (Q : Int32 → Prop) (hk : wp_R_thrown M0 Q) : Ct l y_R_thrown ws_R_thrown rm_R_thrown D (ceR ad cA) cA tb [.ref (ad 0)] M0 (QIp M0 Q) := by
  refine Ct.of (own := "TileConsoleModel") (cc := b_R_thrown) (maxL := 1) (ret := (some .int)) ceR_fix (by decide) rfl rfl (Nat.le_of_ble_eq_true rfl) ?_
  intro p e s m args below meth c A QQ ls H locs hQQ hC hr hlk hw hl
  have hx := hC.1.1
  have hb := hC.1.2.1
  unfold wp_R_thrown at hk
  have hl : lv_has ls 1 [(0, .ref (ad 0))] := hl
  refine lv_aload_n hx hb d_R_thrown_0 rfl (lv_at hl 0 rfl) ?_
  refine g_R_err hC hw q_46 d_R_thrown_1 ?_
  exact rt_i hQQ hx hb hr hlk hw ⟨rfl, _, rfl, hk⟩ d_R_thrown_4
set_option maxHeartbeats 4000000 in
set_option maxRecDepth 100000 in
theorem ct_R_in {l : Launch} {D : va_G} {cA : ClassId} {ad tb : Nat → Nat} (M0 : Mem) (a1 : Int32) (a2 : Int32) (a3 : Int32) (Q : Int32 → Prop) (hk : wp_R_in M0 a1 a2 a3 Q) : Ct l y_R_in ws_R_in rm_R_in D (ceR ad cA) cA tb [.int a1, .int a2, .int a3] M0 (QIp M0 Q) := by
  refine Ct.of (own := "TileConsoleModel") (cc := b_R_in) (maxL := 3) (ret := (some .boolean)) ceR_fix (by decide) rfl rfl (Nat.le_of_ble_eq_true rfl) ?_
  intro p e s m args below meth c A QQ ls H locs hQQ hC hr hlk hw hl
  have hx := hC.1.1
  have hb := hC.1.2.1
  unfold wp_R_in at hk
  have hl : lv_has ls 3 [(0, .int a1), (1, .int a2), (2, .int a3)] := hl
  refine lv_iload_n hx hb d_R_in_0 rfl (lv_at hl 0 rfl) ?_
  refine lv_iload_n hx hb d_R_in_1 rfl (lv_at hl 1 rfl) ?_
  have hj1 : ∀ (H : Heap) (locs : List Loc) (ls : Array Slot) (x2 : Int32), wp_R_in_j1 x2 Q → Wd D (ceR ad cA) A s H locs M0 → lv_has ls 3 [(0, .int a1), (1, .int a2), (2, .int a3)] → W p l e rm_R_in s m args below meth c H locs 0 0 QQ (F0 m 15 ls [.int x2]) := by
    intro H locs ls x2 hk hw hl
    unfold wp_R_in_j1 at hk
    obtain ⟨hz, hk⟩ := hk
    exact rt_z hQQ hx hb hr hlk hw hz ⟨rfl, _, rfl, hk⟩ d_R_in_15
  have hj2 : ∀ (H : Heap) (locs : List Loc) (ls : Array Slot), wp_R_in_j2 Q → Wd D (ceR ad cA) A s H locs M0 → lv_has ls 3 [(0, .int a1), (1, .int a2), (2, .int a3)] → W p l e rm_R_in s m args below meth c H locs 0 0 QQ (F0 m 14 ls []) := by
    intro H locs ls  hk hw hl
    unfold wp_R_in_j2 at hk
    refine lv_iconst (v := 0) hx hb d_R_in_14 (by decide) ?_
    exact hj1 _ _ _ _ hk hw (lv_sub hl [0, 1, 2] rfl)
  refine lv_icmp_lt (tgt := 14) hx hb d_R_in_2 (by decide) (fun hc => ?_) (fun hc => ?_)
  · have hk := hk.1 hc
    exact hj2 _ _ _  hk hw (lv_sub hl [0, 1, 2] rfl)
  · have hk := hk.2 hc
    refine lv_iload_n hx hb d_R_in_5 rfl (lv_at hl 0 rfl) ?_
    refine lv_iload_n hx hb d_R_in_6 rfl (lv_at hl 2 rfl) ?_
    refine lv_icmp_gt (tgt := 14) hx hb d_R_in_7 (by decide) (fun hc => ?_) (fun hc => ?_)
    · have hk := hk.1 hc
      exact hj2 _ _ _  hk hw (lv_sub hl [0, 1, 2] rfl)
    · have hk := hk.2 hc
      refine lv_iconst (v := 1) hx hb d_R_in_10 (by decide) ?_
      refine lv_goto (tgt := 15) hx hb d_R_in_11 (by decide) ?_
      exact hj1 _ _ _ _ hk hw (lv_sub hl [0, 1, 2] rfl)
set_option maxHeartbeats 4000000 in
set_option maxRecDepth 100000 in
theorem ct_R_fails {l : Launch} {D : va_G} {cA : ClassId} {ad tb : Nat → Nat} (M0 : Mem) (a1 : Int32) (a2 : Int32) (Q : Int32 → Mem → Prop) (hk : wp_R_fails M0 a1 a2 Q) : Ct l y_R_fails ws_R_fails rm_R_fails D (ceR ad cA) cA tb [.ref (ad 0), .int a1, .int a2] M0 (QI Q) := by
  refine Ct.of (own := "TileConsoleModel") (cc := b_R_fails) (maxL := 3) (ret := (some .boolean)) ceR_fix (by decide) rfl rfl (Nat.le_of_ble_eq_true rfl) ?_
  intro p e s m args below meth c A QQ ls H locs hQQ hC hr hlk hw hl
  have hx := hC.1.1
  have hb := hC.1.2.1
  unfold wp_R_fails at hk
  have hl : lv_has ls 3 [(0, .ref (ad 0)), (1, .int a1), (2, .int a2)] := hl
  refine lv_iload_n hx hb d_R_fails_0 rfl (lv_at hl 1 rfl) ?_
  have hj1 : ∀ (H : Heap) (locs : List Loc) (ls : Array Slot) (M5 : Mem), wp_R_fails_j1 M5 Q → Wd D (ceR ad cA) A s H locs M5 → lv_has ls 3 [(0, .ref (ad 0)), (1, .int a1), (2, .int a2)] → W p l e rm_R_fails s m args below meth c H locs 0 0 QQ (F0 m 16 ls []) := by
    intro H locs ls M5 hk hw hl
    unfold wp_R_fails_j1 at hk
    refine lv_aload_n hx hb d_R_fails_16 rfl (lv_at hl 0 rfl) ?_
    refine g_R_err hC hw q_46 d_R_fails_17 ?_
    have hj2 : ∀ (H : Heap) (locs : List Loc) (ls : Array Slot) (x7 : Int32), wp_R_fails_j2 M5 x7 Q → Wd D (ceR ad cA) A s H locs M5 → lv_has ls 3 [(0, .ref (ad 0)), (1, .int a1), (2, .int a2)] → W p l e rm_R_fails s m args below meth c H locs 0 0 QQ (F0 m 28 ls [.int x7]) := by
      intro H locs ls x7 hk hw hl
      unfold wp_R_fails_j2 at hk
      obtain ⟨hz, hk⟩ := hk
      exact rt_z hQQ hx hb hr hlk hw hz ⟨_, rfl, hk⟩ d_R_fails_28
    refine lv_if_eq (tgt := 27) hx hb d_R_fails_20 (by decide) (fun hc => ?_) (fun hc => ?_)
    · have hk := hk.1 hc
      refine lv_iconst (v := 0) hx hb d_R_fails_27 (by decide) ?_
      exact hj2 _ _ _ _ hk hw (lv_sub hl [0, 1, 2] rfl)
    · have hk := hk.2 hc
      refine lv_iconst (v := 1) hx hb d_R_fails_23 (by decide) ?_
      refine lv_goto (tgt := 28) hx hb d_R_fails_24 (by decide) ?_
      exact hj2 _ _ _ _ hk hw (lv_sub hl [0, 1, 2] rfl)
  refine lv_if_eq (tgt := 16) hx hb d_R_fails_1 (by decide) (fun hc => ?_) (fun hc => ?_)
  · have hk := hk.1 hc
    exact hj1 _ _ _ _ hk hw (lv_sub hl [0, 1, 2] rfl)
  · have hk := hk.2 hc
    refine lv_aload_n hx hb d_R_fails_4 rfl (lv_at hl 0 rfl) ?_
    refine g_R_err hC hw q_46 d_R_fails_5 ?_
    refine lv_if_ne (tgt := 16) hx hb d_R_fails_8 (by decide) (fun hc => ?_) (fun hc => ?_)
    · have hk := hk.1 hc
      exact hj1 _ _ _ _ hk hw (lv_sub hl [0, 1, 2] rfl)
    · have hk := hk.2 hc
      refine lv_aload_n hx hb d_R_fails_11 rfl (lv_at hl 0 rfl) ?_
      refine lv_iload_n hx hb d_R_fails_12 rfl (lv_at hl 2 rfl) ?_
      refine p_R_err hC hw q_46 d_R_fails_13 (fun H locs M8 e_M8 hw => ?_)
      have hk := hk M8 e_M8
      exact hj1 _ _ _ _ hk hw (lv_sub hl [0, 1, 2] rfl)
set_option maxHeartbeats 4000000 in
set_option maxRecDepth 100000 in
theorem ct_R_bankHigh {l : Launch} {D : va_G} {cA : ClassId} {ad tb : Nat → Nat} (M0 : Mem) (Q : Int32 → Prop) (hk : wp_R_bankHigh M0 Q) : Ct l y_R_bankHigh ws_R_bankHigh rm_R_bankHigh D (ceR ad cA) cA tb [.ref (ad 0)] M0 (QIp M0 Q) := by
  refine Ct.of (own := "TileConsoleModel") (cc := b_R_bankHigh) (maxL := 1) (ret := (some .int)) ceR_fix (by decide) rfl rfl (Nat.le_of_ble_eq_true rfl) ?_
  intro p e s m args below meth c A QQ ls H locs hQQ hC hr hlk hw hl
  have hx := hC.1.1
  have hb := hC.1.2.1
  unfold wp_R_bankHigh at hk
  have hl : lv_has ls 1 [(0, .ref (ad 0))] := hl
  refine lv_aload_n hx hb d_R_bankHigh_0 rfl (lv_at hl 0 rfl) ?_
  refine g_R_isIn hC hw q_47 d_R_bankHigh_1 ?_
  have hj1 : ∀ (H : Heap) (locs : List Loc) (ls : Array Slot) (x2 : Int32), wp_R_bankHigh_j1 x2 Q → Wd D (ceR ad cA) A s H locs M0 → lv_has ls 1 [(0, .ref (ad 0))] → W p l e rm_R_bankHigh s m args below meth c H locs 0 0 QQ (F0 m 58 ls [.int x2]) := by
    intro H locs ls x2 hk hw hl
    unfold wp_R_bankHigh_j1 at hk
    exact rt_i hQQ hx hb hr hlk hw ⟨rfl, _, rfl, hk⟩ d_R_bankHigh_58
  have hj2 : ∀ (H : Heap) (locs : List Loc) (ls : Array Slot), wp_R_bankHigh_j2 Q → Wd D (ceR ad cA) A s H locs M0 → lv_has ls 1 [(0, .ref (ad 0))] → W p l e rm_R_bankHigh s m args below meth c H locs 0 0 QQ (F0 m 14 ls []) := by
    intro H locs ls  hk hw hl
    unfold wp_R_bankHigh_j2 at hk
    refine lv_iconst (v := 1) hx hb d_R_bankHigh_14 (by decide) ?_
    refine lv_goto (tgt := 58) hx hb d_R_bankHigh_15 (by decide) ?_
    exact hj1 _ _ _ _ hk hw (lv_sub hl [0] rfl)
  refine lv_if_eq (tgt := 14) hx hb d_R_bankHigh_4 (by decide) (fun hc => ?_) (fun hc => ?_)
  · have hk := hk.1 hc
    exact hj2 _ _ _  hk hw (lv_sub hl [0] rfl)
  · have hk := hk.2 hc
    refine lv_aload_n hx hb d_R_bankHigh_7 rfl (lv_at hl 0 rfl) ?_
    refine g_R_kind hC hw q_48 d_R_bankHigh_8 ?_
    refine lv_if_ne (tgt := 18) hx hb d_R_bankHigh_11 (by decide) (fun hc => ?_) (fun hc => ?_)
    · have hk := hk.1 hc
      refine lv_aload_n hx hb d_R_bankHigh_18 rfl (lv_at hl 0 rfl) ?_
      refine g_R_kind hC hw q_48 d_R_bankHigh_19 ?_
      refine lv_iconst (v := 1) hx hb d_R_bankHigh_22 (by decide) ?_
      refine lv_icmp_ne (tgt := 36) hx hb d_R_bankHigh_23 (by decide) (fun hc => ?_) (fun hc => ?_)
      · have hk := hk.1 hc
        refine lv_aload_n hx hb d_R_bankHigh_36 rfl (lv_at hl 0 rfl) ?_
        refine g_R_kind hC hw q_48 d_R_bankHigh_37 ?_
        refine lv_iconst (v := 2) hx hb d_R_bankHigh_40 (by decide) ?_
        refine lv_icmp_ne (tgt := 51) hx hb d_R_bankHigh_41 (by decide) (fun hc => ?_) (fun hc => ?_)
        · have hk := hk.1 hc
          refine lv_aload_n hx hb d_R_bankHigh_51 rfl (lv_at hl 0 rfl) ?_
          refine g_R_numberN hC hw q_10 d_R_bankHigh_52 ?_
          refine lv_bipush (v := 8) hx hb d_R_bankHigh_55 (by decide) ?_
          refine lv_irem hx hb d_R_bankHigh_57 (by decide) ?_
          exact hj1 _ _ _ _ hk hw (lv_sub hl [0] rfl)
        · have hk := hk.2 hc
          refine lv_aload_n hx hb d_R_bankHigh_44 rfl (lv_at hl 0 rfl) ?_
          refine g_R_bankTwo hC hw q_12 d_R_bankHigh_45 ?_
          refine lv_goto (tgt := 58) hx hb d_R_bankHigh_48 (by decide) ?_
          exact hj1 _ _ _ _ hk hw (lv_sub hl [0] rfl)
      · have hk := hk.2 hc
        refine lv_aload_n hx hb d_R_bankHigh_26 rfl (lv_at hl 0 rfl) ?_
        refine g_R_numberA hC hw q_7 d_R_bankHigh_27 ?_
        refine lv_bipush (v := 8) hx hb d_R_bankHigh_30 (by decide) ?_
        refine lv_irem hx hb d_R_bankHigh_32 (by decide) ?_
        refine lv_goto (tgt := 58) hx hb d_R_bankHigh_33 (by decide) ?_
        exact hj1 _ _ _ _ hk hw (lv_sub hl [0] rfl)
    · have hk := hk.2 hc
      exact hj2 _ _ _  hk hw (lv_sub hl [0] rfl)
set_option maxHeartbeats 4000000 in
set_option maxRecDepth 100000 in
theorem ct_R_bankRam {l : Launch} {D : va_G} {cA : ClassId} {ad tb : Nat → Nat} (M0 : Mem) (Q : Int32 → Prop) (hk : wp_R_bankRam M0 Q) : Ct l y_R_bankRam ws_R_bankRam rm_R_bankRam D (ceR ad cA) cA tb [.ref (ad 0)] M0 (QIp M0 Q) := by
  refine Ct.of (own := "TileConsoleModel") (cc := b_R_bankRam) (maxL := 1) (ret := (some .int)) ceR_fix (by decide) rfl rfl (Nat.le_of_ble_eq_true rfl) ?_
  intro p e s m args below meth c A QQ ls H locs hQQ hC hr hlk hw hl
  have hx := hC.1.1
  have hb := hC.1.2.1
  unfold wp_R_bankRam at hk
  have hl : lv_has ls 1 [(0, .ref (ad 0))] := hl
  refine lv_aload_n hx hb d_R_bankRam_0 rfl (lv_at hl 0 rfl) ?_
  refine g_R_kind hC hw q_48 d_R_bankRam_1 ?_
  refine lv_iconst (v := 1) hx hb d_R_bankRam_4 (by decide) ?_
  have hj1 : ∀ (H : Heap) (locs : List Loc) (ls : Array Slot) (x2 : Int32), wp_R_bankRam_j1 x2 Q → Wd D (ceR ad cA) A s H locs M0 → lv_has ls 1 [(0, .ref (ad 0))] → W p l e rm_R_bankRam s m args below meth c H locs 0 0 QQ (F0 m 43 ls [.int x2]) := by
    intro H locs ls x2 hk hw hl
    unfold wp_R_bankRam_j1 at hk
    exact rt_i hQQ hx hb hr hlk hw ⟨rfl, _, rfl, hk⟩ d_R_bankRam_43
  refine lv_icmp_ne (tgt := 27) hx hb d_R_bankRam_5 (by decide) (fun hc => ?_) (fun hc => ?_)
  · have hk := hk.1 hc
    refine lv_aload_n hx hb d_R_bankRam_27 rfl (lv_at hl 0 rfl) ?_
    refine g_R_kind hC hw q_48 d_R_bankRam_28 ?_
    refine lv_iconst (v := 3) hx hb d_R_bankRam_31 (by decide) ?_
    refine lv_icmp_ne (tgt := 42) hx hb d_R_bankRam_32 (by decide) (fun hc => ?_) (fun hc => ?_)
    · have hk := hk.1 hc
      refine lv_iconst (v := 0) hx hb d_R_bankRam_42 (by decide) ?_
      exact hj1 _ _ _ _ hk hw (lv_sub hl [0] rfl)
    · have hk := hk.2 hc
      refine lv_aload_n hx hb d_R_bankRam_35 rfl (lv_at hl 0 rfl) ?_
      refine g_R_bankOfRam hC hw q_11 d_R_bankRam_36 ?_
      refine lv_goto (tgt := 43) hx hb d_R_bankRam_39 (by decide) ?_
      exact hj1 _ _ _ _ hk hw (lv_sub hl [0] rfl)
  · have hk := hk.2 hc
    refine lv_aload_n hx hb d_R_bankRam_8 rfl (lv_at hl 0 rfl) ?_
    refine g_R_mode hC hw q_9 d_R_bankRam_9 ?_
    refine lv_iconst (v := 1) hx hb d_R_bankRam_12 (by decide) ?_
    refine lv_icmp_ne (tgt := 23) hx hb d_R_bankRam_13 (by decide) (fun hc => ?_) (fun hc => ?_)
    · have hk := hk.1 hc
      refine lv_iconst (v := 0) hx hb d_R_bankRam_23 (by decide) ?_
      refine lv_goto (tgt := 43) hx hb d_R_bankRam_24 (by decide) ?_
      exact hj1 _ _ _ _ hk hw (lv_sub hl [0] rfl)
    · have hk := hk.2 hc
      refine lv_aload_n hx hb d_R_bankRam_16 rfl (lv_at hl 0 rfl) ?_
      refine g_R_numberB hC hw q_8 d_R_bankRam_17 ?_
      refine lv_goto (tgt := 43) hx hb d_R_bankRam_20 (by decide) ?_
      exact hj1 _ _ _ _ hk hw (lv_sub hl [0] rfl)
set_option maxHeartbeats 4000000 in
set_option maxRecDepth 100000 in
theorem ct_R_hasRam {l : Launch} {D : va_G} {cA : ClassId} {ad tb : Nat → Nat} (M0 : Mem) (Q : Int32 → Prop) (hk : wp_R_hasRam M0 Q) : Ct l y_R_hasRam ws_R_hasRam rm_R_hasRam D (ceR ad cA) cA tb [.ref (ad 0)] M0 (QIp M0 Q) := by
  refine Ct.of (own := "TileConsoleModel") (cc := b_R_hasRam) (maxL := 1) (ret := (some .boolean)) ceR_fix (by decide) rfl rfl (Nat.le_of_ble_eq_true rfl) ?_
  intro p e s m args below meth c A QQ ls H locs hQQ hC hr hlk hw hl
  have hx := hC.1.1
  have hb := hC.1.2.1
  unfold wp_R_hasRam at hk
  have hl : lv_has ls 1 [(0, .ref (ad 0))] := hl
  refine lv_aload_n hx hb d_R_hasRam_0 rfl (lv_at hl 0 rfl) ?_
  refine g_R_isIn hC hw q_47 d_R_hasRam_1 ?_
  have hj1 : ∀ (H : Heap) (locs : List Loc) (ls : Array Slot) (x2 : Int32), wp_R_hasRam_j1 x2 Q → Wd D (ceR ad cA) A s H locs M0 → lv_has ls 1 [(0, .ref (ad 0))] → W p l e rm_R_hasRam s m args below meth c H locs 0 0 QQ (F0 m 26 ls [.int x2]) := by
    intro H locs ls x2 hk hw hl
    unfold wp_R_hasRam_j1 at hk
    obtain ⟨hz, hk⟩ := hk
    exact rt_z hQQ hx hb hr hlk hw hz ⟨rfl, _, rfl, hk⟩ d_R_hasRam_26
  have hj2 : ∀ (H : Heap) (locs : List Loc) (ls : Array Slot), wp_R_hasRam_j2 Q → Wd D (ceR ad cA) A s H locs M0 → lv_has ls 1 [(0, .ref (ad 0))] → W p l e rm_R_hasRam s m args below meth c H locs 0 0 QQ (F0 m 25 ls []) := by
    intro H locs ls  hk hw hl
    unfold wp_R_hasRam_j2 at hk
    refine lv_iconst (v := 0) hx hb d_R_hasRam_25 (by decide) ?_
    exact hj1 _ _ _ _ hk hw (lv_sub hl [0] rfl)
  refine lv_if_eq (tgt := 25) hx hb d_R_hasRam_4 (by decide) (fun hc => ?_) (fun hc => ?_)
  · have hk := hk.1 hc
    exact hj2 _ _ _  hk hw (lv_sub hl [0] rfl)
  · have hk := hk.2 hc
    refine lv_aload_n hx hb d_R_hasRam_7 rfl (lv_at hl 0 rfl) ?_
    refine g_R_kind hC hw q_48 d_R_hasRam_8 ?_
    have hj3 : ∀ (H : Heap) (locs : List Loc) (ls : Array Slot), wp_R_hasRam_j3 Q → Wd D (ceR ad cA) A s H locs M0 → lv_has ls 1 [(0, .ref (ad 0))] → W p l e rm_R_hasRam s m args below meth c H locs 0 0 QQ (F0 m 21 ls []) := by
      intro H locs ls  hk hw hl
      unfold wp_R_hasRam_j3 at hk
      refine lv_iconst (v := 1) hx hb d_R_hasRam_21 (by decide) ?_
      refine lv_goto (tgt := 26) hx hb d_R_hasRam_22 (by decide) ?_
      exact hj1 _ _ _ _ hk hw (lv_sub hl [0] rfl)
    refine lv_if_eq (tgt := 21) hx hb d_R_hasRam_11 (by decide) (fun hc => ?_) (fun hc => ?_)
    · have hk := hk.1 hc
      exact hj3 _ _ _  hk hw (lv_sub hl [0] rfl)
    · have hk := hk.2 hc
      refine lv_aload_n hx hb d_R_hasRam_14 rfl (lv_at hl 0 rfl) ?_
      refine g_R_isOn hC hw q_6 d_R_hasRam_15 ?_
      refine lv_if_eq (tgt := 25) hx hb d_R_hasRam_18 (by decide) (fun hc => ?_) (fun hc => ?_)
      · have hk := hk.1 hc
        exact hj2 _ _ _  hk hw (lv_sub hl [0] rfl)
      · have hk := hk.2 hc
        exact hj3 _ _ _  hk hw (lv_sub hl [0] rfl)
set_option maxHeartbeats 4000000 in
set_option maxRecDepth 100000 in
theorem ct_R_controls {l : Launch} {D : va_G} {cA : ClassId} {ad tb : Nat → Nat} (M0 : Mem) (a1 : Int32) (a2 : Int32) (Q : Mem → Prop) (hk : wp_R_controls M0 a1 a2 Q) : Ct l y_R_controls ws_R_controls rm_R_controls D (ceR ad cA) cA tb [.ref (ad 0), .int a1, .int a2] M0 (QV Q) := by
  refine Ct.of (own := "TileConsoleModel") (cc := b_R_controls) (maxL := 3) (ret := none) ceR_fix (by decide) rfl rfl (Nat.le_of_ble_eq_true rfl) ?_
  intro p e s m args below meth c A QQ ls H locs hQQ hC hr hlk hw hl
  have hx := hC.1.1
  have hb := hC.1.2.1
  unfold wp_R_controls at hk
  have hl : lv_has ls 3 [(0, .ref (ad 0)), (1, .int a1), (2, .int a2)] := hl
  refine lv_aload_n hx hb d_R_controls_0 rfl (lv_at hl 0 rfl) ?_
  refine g_R_isIn hC hw q_47 d_R_controls_1 ?_
  have hj1 : ∀ (H : Heap) (locs : List Loc) (ls : Array Slot), wp_R_controls_j1 M0 Q → Wd D (ceR ad cA) A s H locs M0 → lv_has ls 3 [(0, .ref (ad 0)), (1, .int a1), (2, .int a2)] → W p l e rm_R_controls s m args below meth c H locs 0 0 QQ (F0 m 14 ls []) := by
    intro H locs ls  hk hw hl
    unfold wp_R_controls_j1 at hk
    exact rt_v hQQ hx hb hr hlk hw ⟨rfl, hk⟩ d_R_controls_14
  refine lv_if_eq (tgt := 14) hx hb d_R_controls_4 (by decide) (fun hc => ?_) (fun hc => ?_)
  · have hk := hk.1 hc
    exact hj1 _ _ _  hk hw (lv_sub hl [0, 1, 2] rfl)
  · have hk := hk.2 hc
    refine lv_aload_n hx hb d_R_controls_7 rfl (lv_at hl 0 rfl) ?_
    refine g_R_kind hC hw q_48 d_R_controls_8 ?_
    refine lv_if_ne (tgt := 15) hx hb d_R_controls_11 (by decide) (fun hc => ?_) (fun hc => ?_)
    · have hk := hk.1 hc
      refine lv_aload_n hx hb d_R_controls_15 rfl (lv_at hl 0 rfl) ?_
      refine g_R_kind hC hw q_48 d_R_controls_16 ?_
      refine lv_iconst (v := 2) hx hb d_R_controls_19 (by decide) ?_
      refine lv_icmp_ne (tgt := 83) hx hb d_R_controls_20 (by decide) (fun hc => ?_) (fun hc => ?_)
      · have hk := hk.1 hc
        refine lv_iload_n hx hb d_R_controls_83 rfl (lv_at hl 1 rfl) ?_
        refine lv_sipush (v := 8192) hx hb d_R_controls_84 (by decide) ?_
        have hj2 : ∀ (H : Heap) (locs : List Loc) (ls : Array Slot) (M61 : Mem), wp_R_controls_j2 M61 Q → Wd D (ceR ad cA) A s H locs M61 → lv_has ls 3 [(0, .ref (ad 0)), (1, .int a1), (2, .int a2)] → W p l e rm_R_controls s m args below meth c H locs 0 0 QQ (F0 m 242 ls []) := by
          intro H locs ls M61 hk hw hl
          unfold wp_R_controls_j2 at hk
          exact rt_v hQQ hx hb hr hlk hw ⟨rfl, hk⟩ d_R_controls_242
        refine lv_icmp_ge (tgt := 111) hx hb d_R_controls_87 (by decide) (fun hc => ?_) (fun hc => ?_)
        · have hk := hk.1 hc
          refine lv_aload_n hx hb d_R_controls_111 rfl (lv_at hl 0 rfl) ?_
          refine g_R_kind hC hw q_48 d_R_controls_112 ?_
          refine lv_iconst (v := 1) hx hb d_R_controls_115 (by decide) ?_
          refine lv_icmp_ne (tgt := 175) hx hb d_R_controls_116 (by decide) (fun hc => ?_) (fun hc => ?_)
          · have hk := hk.1 hc
            refine lv_iload_n hx hb d_R_controls_175 rfl (lv_at hl 1 rfl) ?_
            refine lv_sipush (v := 12288) hx hb d_R_controls_176 (by decide) ?_
            refine lv_icmp_ge (tgt := 199) hx hb d_R_controls_179 (by decide) (fun hc => ?_) (fun hc => ?_)
            · have hk := hk.1 hc
              refine lv_iload_n hx hb d_R_controls_199 rfl (lv_at hl 1 rfl) ?_
              refine lv_sipush (v := 16384) hx hb d_R_controls_200 (by decide) ?_
              refine lv_icmp_ge (tgt := 228) hx hb d_R_controls_203 (by decide) (fun hc => ?_) (fun hc => ?_)
              · have hk := hk.1 hc
                refine lv_iload_n hx hb d_R_controls_228 rfl (lv_at hl 1 rfl) ?_
                refine lv_sipush (v := 24576) hx hb d_R_controls_229 (by decide) ?_
                refine lv_icmp_ge (tgt := 242) hx hb d_R_controls_232 (by decide) (fun hc => ?_) (fun hc => ?_)
                · have hk := hk.1 hc
                  exact hj2 _ _ _ _ hk hw (lv_sub hl [0, 1, 2] rfl)
                · have hk := hk.2 hc
                  refine lv_aload_n hx hb d_R_controls_235 rfl (lv_at hl 0 rfl) ?_
                  refine lv_iload_n hx hb d_R_controls_236 rfl (lv_at hl 2 rfl) ?_
                  refine lv_iconst (v := 3) hx hb d_R_controls_237 (by decide) ?_
                  refine lv_iand hx hb d_R_controls_238 ?_
                  refine p_R_bankOfRam hC hw q_11 d_R_controls_239 (fun H locs M62 e_M62 hw => ?_)
                  have hk := hk M62 e_M62
                  exact hj2 _ _ _ _ hk hw (lv_sub hl [0, 1, 2] rfl)
              · have hk := hk.2 hc
                refine lv_aload_n hx hb d_R_controls_206 rfl (lv_at hl 0 rfl) ?_
                refine lv_aload_n hx hb d_R_controls_207 rfl (lv_at hl 0 rfl) ?_
                refine g_R_numberN hC hw q_10 d_R_controls_208 ?_
                refine lv_sipush (v := 255) hx hb d_R_controls_211 (by decide) ?_
                refine lv_iand hx hb d_R_controls_214 ?_
                refine lv_iload_n hx hb d_R_controls_215 rfl (lv_at hl 2 rfl) ?_
                refine lv_iconst (v := 1) hx hb d_R_controls_216 (by decide) ?_
                refine lv_iand hx hb d_R_controls_217 ?_
                refine lv_bipush (v := 8) hx hb d_R_controls_218 (by decide) ?_
                refine lv_ishl hx hb d_R_controls_220 ?_
                refine lv_ior hx hb d_R_controls_221 ?_
                refine p_R_numberN hC hw q_10 d_R_controls_222 (fun H locs M63 e_M63 hw => ?_)
                have hk := hk M63 e_M63
                refine lv_goto (tgt := 242) hx hb d_R_controls_225 (by decide) ?_
                exact hj2 _ _ _ _ hk hw (lv_sub hl [0, 1, 2] rfl)
            · have hk := hk.2 hc
              refine lv_aload_n hx hb d_R_controls_182 rfl (lv_at hl 0 rfl) ?_
              refine lv_aload_n hx hb d_R_controls_183 rfl (lv_at hl 0 rfl) ?_
              refine g_R_numberN hC hw q_10 d_R_controls_184 ?_
              refine lv_sipush (v := 256) hx hb d_R_controls_187 (by decide) ?_
              refine lv_iand hx hb d_R_controls_190 ?_
              refine lv_iload_n hx hb d_R_controls_191 rfl (lv_at hl 2 rfl) ?_
              refine lv_ior hx hb d_R_controls_192 ?_
              refine p_R_numberN hC hw q_10 d_R_controls_193 (fun H locs M64 e_M64 hw => ?_)
              have hk := hk M64 e_M64
              refine lv_goto (tgt := 242) hx hb d_R_controls_196 (by decide) ?_
              exact hj2 _ _ _ _ hk hw (lv_sub hl [0, 1, 2] rfl)
          · have hk := hk.2 hc
            refine lv_iload_n hx hb d_R_controls_119 rfl (lv_at hl 1 rfl) ?_
            refine lv_sipush (v := 16384) hx hb d_R_controls_120 (by decide) ?_
            refine lv_icmp_ge (tgt := 148) hx hb d_R_controls_123 (by decide) (fun hc => ?_) (fun hc => ?_)
            · have hk := hk.1 hc
              refine lv_iload_n hx hb d_R_controls_148 rfl (lv_at hl 1 rfl) ?_
              refine lv_sipush (v := 24576) hx hb d_R_controls_149 (by decide) ?_
              refine lv_icmp_ge (tgt := 165) hx hb d_R_controls_152 (by decide) (fun hc => ?_) (fun hc => ?_)
              · have hk := hk.1 hc
                refine lv_aload_n hx hb d_R_controls_165 rfl (lv_at hl 0 rfl) ?_
                refine lv_iload_n hx hb d_R_controls_166 rfl (lv_at hl 2 rfl) ?_
                refine lv_iconst (v := 1) hx hb d_R_controls_167 (by decide) ?_
                refine lv_iand hx hb d_R_controls_168 ?_
                refine p_R_mode hC hw q_9 d_R_controls_169 (fun H locs M65 e_M65 hw => ?_)
                have hk := hk M65 e_M65
                refine lv_goto (tgt := 242) hx hb d_R_controls_172 (by decide) ?_
                exact hj2 _ _ _ _ hk hw (lv_sub hl [0, 1, 2] rfl)
              · have hk := hk.2 hc
                refine lv_aload_n hx hb d_R_controls_155 rfl (lv_at hl 0 rfl) ?_
                refine lv_iload_n hx hb d_R_controls_156 rfl (lv_at hl 2 rfl) ?_
                refine lv_iconst (v := 3) hx hb d_R_controls_157 (by decide) ?_
                refine lv_iand hx hb d_R_controls_158 ?_
                refine p_R_numberB hC hw q_8 d_R_controls_159 (fun H locs M66 e_M66 hw => ?_)
                have hk := hk M66 e_M66
                refine lv_goto (tgt := 242) hx hb d_R_controls_162 (by decide) ?_
                exact hj2 _ _ _ _ hk hw (lv_sub hl [0, 1, 2] rfl)
            · have hk := hk.2 hc
              refine lv_aload_n hx hb d_R_controls_126 rfl (lv_at hl 0 rfl) ?_
              refine lv_iload_n hx hb d_R_controls_127 rfl (lv_at hl 2 rfl) ?_
              refine lv_bipush (v := 31) hx hb d_R_controls_128 (by decide) ?_
              refine lv_iand hx hb d_R_controls_130 ?_
              have hj3 : ∀ (H : Heap) (locs : List Loc) (ls : Array Slot) (x69 : Int32), wp_R_controls_j3 M0 x69 Q → Wd D (ceR ad cA) A s H locs M0 → lv_has ls 3 [(0, .ref (ad 0)), (1, .int a1), (2, .int a2)] → W p l e rm_R_controls s m args below meth c H locs 0 0 QQ (F0 m 142 ls [.int x69, .ref (ad 0)]) := by
                intro H locs ls x69 hk hw hl
                unfold wp_R_controls_j3 at hk
                refine p_R_numberA hC hw q_7 d_R_controls_142 (fun H locs M70 e_M70 hw => ?_)
                have hk := hk M70 e_M70
                refine lv_goto (tgt := 242) hx hb d_R_controls_145 (by decide) ?_
                exact hj2 _ _ _ _ hk hw (lv_sub hl [0, 1, 2] rfl)
              refine lv_if_ne (tgt := 138) hx hb d_R_controls_131 (by decide) (fun hc => ?_) (fun hc => ?_)
              · have hk := hk.1 hc
                refine lv_iload_n hx hb d_R_controls_138 rfl (lv_at hl 2 rfl) ?_
                refine lv_bipush (v := 31) hx hb d_R_controls_139 (by decide) ?_
                refine lv_iand hx hb d_R_controls_141 ?_
                exact hj3 _ _ _ _ hk hw (lv_sub hl [0, 1, 2] rfl)
              · have hk := hk.2 hc
                refine lv_iconst (v := 1) hx hb d_R_controls_134 (by decide) ?_
                refine lv_goto (tgt := 142) hx hb d_R_controls_135 (by decide) ?_
                exact hj3 _ _ _ _ hk hw (lv_sub hl [0, 1, 2] rfl)
        · have hk := hk.2 hc
          refine lv_aload_n hx hb d_R_controls_90 rfl (lv_at hl 0 rfl) ?_
          refine lv_iload_n hx hb d_R_controls_91 rfl (lv_at hl 2 rfl) ?_
          refine lv_bipush (v := 15) hx hb d_R_controls_92 (by decide) ?_
          refine lv_iand hx hb d_R_controls_94 ?_
          refine lv_bipush (v := 10) hx hb d_R_controls_95 (by decide) ?_
          have hj4 : ∀ (H : Heap) (locs : List Loc) (ls : Array Slot) (x73 : Int32), wp_R_controls_j4 M0 x73 Q → Wd D (ceR ad cA) A s H locs M0 → lv_has ls 3 [(0, .ref (ad 0)), (1, .int a1), (2, .int a2)] → W p l e rm_R_controls s m args below meth c H locs 0 0 QQ (F0 m 105 ls [.int x73, .ref (ad 0)]) := by
            intro H locs ls x73 hk hw hl
            unfold wp_R_controls_j4 at hk
            obtain ⟨hz, hk⟩ := hk
            refine p_R_isOn hC hw hz q_6 d_R_controls_105 (fun H locs M74 e_M74 hw => ?_)
            have hk := hk M74 e_M74
            refine lv_goto (tgt := 242) hx hb d_R_controls_108 (by decide) ?_
            exact hj2 _ _ _ _ hk hw (lv_sub hl [0, 1, 2] rfl)
          refine lv_icmp_ne (tgt := 104) hx hb d_R_controls_97 (by decide) (fun hc => ?_) (fun hc => ?_)
          · have hk := hk.1 hc
            refine lv_iconst (v := 0) hx hb d_R_controls_104 (by decide) ?_
            exact hj4 _ _ _ _ hk hw (lv_sub hl [0, 1, 2] rfl)
          · have hk := hk.2 hc
            refine lv_iconst (v := 1) hx hb d_R_controls_100 (by decide) ?_
            refine lv_goto (tgt := 105) hx hb d_R_controls_101 (by decide) ?_
            exact hj4 _ _ _ _ hk hw (lv_sub hl [0, 1, 2] rfl)
      · have hk := hk.2 hc
        refine lv_iload_n hx hb d_R_controls_23 rfl (lv_at hl 1 rfl) ?_
        refine lv_sipush (v := 16384) hx hb d_R_controls_24 (by decide) ?_
        refine lv_icmp_lt (tgt := 31) hx hb d_R_controls_27 (by decide) (fun hc => ?_) (fun hc => ?_)
        · have hk := hk.1 hc
          refine lv_iload_n hx hb d_R_controls_31 rfl (lv_at hl 1 rfl) ?_
          refine lv_sipush (v := 256) hx hb d_R_controls_32 (by decide) ?_
          refine lv_iand hx hb d_R_controls_35 ?_
          have hj5 : ∀ (H : Heap) (locs : List Loc) (ls : Array Slot) (M84 : Mem), wp_R_controls_j5 M84 Q → Wd D (ceR ad cA) A s H locs M84 → lv_has ls 3 [(0, .ref (ad 0)), (1, .int a1), (2, .int a2)] → W p l e rm_R_controls s m args below meth c H locs 0 0 QQ (F0 m 82 ls []) := by
            intro H locs ls M84 hk hw hl
            unfold wp_R_controls_j5 at hk
            exact rt_v hQQ hx hb hr hlk hw ⟨rfl, hk⟩ d_R_controls_82
          refine lv_if_ne (tgt := 60) hx hb d_R_controls_36 (by decide) (fun hc => ?_) (fun hc => ?_)
          · have hk := hk.1 hc
            refine lv_aload_n hx hb d_R_controls_60 rfl (lv_at hl 0 rfl) ?_
            refine lv_iload_n hx hb d_R_controls_61 rfl (lv_at hl 2 rfl) ?_
            refine lv_bipush (v := 15) hx hb d_R_controls_62 (by decide) ?_
            refine lv_iand hx hb d_R_controls_64 ?_
            have hj6 : ∀ (H : Heap) (locs : List Loc) (ls : Array Slot) (x87 : Int32), wp_R_controls_j6 M0 x87 Q → Wd D (ceR ad cA) A s H locs M0 → lv_has ls 3 [(0, .ref (ad 0)), (1, .int a1), (2, .int a2)] → W p l e rm_R_controls s m args below meth c H locs 0 0 QQ (F0 m 76 ls [.int x87, .ref (ad 0)]) := by
              intro H locs ls x87 hk hw hl
              unfold wp_R_controls_j6 at hk
              refine lv_bipush (v := 8) hx hb d_R_controls_76 (by decide) ?_
              refine lv_irem hx hb d_R_controls_78 (by decide) ?_
              refine p_R_bankTwo hC hw q_12 d_R_controls_79 (fun H locs M88 e_M88 hw => ?_)
              have hk := hk M88 e_M88
              exact hj5 _ _ _ _ hk hw (lv_sub hl [0, 1, 2] rfl)
            refine lv_if_ne (tgt := 72) hx hb d_R_controls_65 (by decide) (fun hc => ?_) (fun hc => ?_)
            · have hk := hk.1 hc
              refine lv_iload_n hx hb d_R_controls_72 rfl (lv_at hl 2 rfl) ?_
              refine lv_bipush (v := 15) hx hb d_R_controls_73 (by decide) ?_
              refine lv_iand hx hb d_R_controls_75 ?_
              exact hj6 _ _ _ _ hk hw (lv_sub hl [0, 1, 2] rfl)
            · have hk := hk.2 hc
              refine lv_iconst (v := 1) hx hb d_R_controls_68 (by decide) ?_
              refine lv_goto (tgt := 76) hx hb d_R_controls_69 (by decide) ?_
              exact hj6 _ _ _ _ hk hw (lv_sub hl [0, 1, 2] rfl)
          · have hk := hk.2 hc
            refine lv_aload_n hx hb d_R_controls_39 rfl (lv_at hl 0 rfl) ?_
            refine lv_iload_n hx hb d_R_controls_40 rfl (lv_at hl 2 rfl) ?_
            refine lv_bipush (v := 15) hx hb d_R_controls_41 (by decide) ?_
            refine lv_iand hx hb d_R_controls_43 ?_
            refine lv_bipush (v := 10) hx hb d_R_controls_44 (by decide) ?_
            have hj7 : ∀ (H : Heap) (locs : List Loc) (ls : Array Slot) (x91 : Int32), wp_R_controls_j7 M0 x91 Q → Wd D (ceR ad cA) A s H locs M0 → lv_has ls 3 [(0, .ref (ad 0)), (1, .int a1), (2, .int a2)] → W p l e rm_R_controls s m args below meth c H locs 0 0 QQ (F0 m 54 ls [.int x91, .ref (ad 0)]) := by
              intro H locs ls x91 hk hw hl
              unfold wp_R_controls_j7 at hk
              obtain ⟨hz, hk⟩ := hk
              refine p_R_isOn hC hw hz q_6 d_R_controls_54 (fun H locs M92 e_M92 hw => ?_)
              have hk := hk M92 e_M92
              refine lv_goto (tgt := 82) hx hb d_R_controls_57 (by decide) ?_
              exact hj5 _ _ _ _ hk hw (lv_sub hl [0, 1, 2] rfl)
            refine lv_icmp_ne (tgt := 53) hx hb d_R_controls_46 (by decide) (fun hc => ?_) (fun hc => ?_)
            · have hk := hk.1 hc
              refine lv_iconst (v := 0) hx hb d_R_controls_53 (by decide) ?_
              exact hj7 _ _ _ _ hk hw (lv_sub hl [0, 1, 2] rfl)
            · have hk := hk.2 hc
              refine lv_iconst (v := 1) hx hb d_R_controls_49 (by decide) ?_
              refine lv_goto (tgt := 54) hx hb d_R_controls_50 (by decide) ?_
              exact hj7 _ _ _ _ hk hw (lv_sub hl [0, 1, 2] rfl)
        · have hk := hk.2 hc
          exact rt_v hQQ hx hb hr hlk hw ⟨rfl, hk⟩ d_R_controls_30
    · have hk := hk.2 hc
      exact hj1 _ _ _  hk hw (lv_sub hl [0, 1, 2] rfl)
set_option maxHeartbeats 4000000 in
set_option maxRecDepth 100000 in
theorem ct_R_state {l : Launch} {D : va_G} {cA : ClassId} {ad tb : Nat → Nat} (M0 : Mem) (Q : Int32 → Prop) (hk : wp_R_state M0 Q) : Ct l y_R_state ws_R_state rm_R_state D (ceR ad cA) cA tb [.ref (ad 0)] M0 (QIp M0 Q) := by
  refine Ct.of (own := "TileConsoleModel") (cc := b_R_state) (maxL := 1) (ret := (some .int)) ceR_fix (by decide) rfl rfl (Nat.le_of_ble_eq_true rfl) ?_
  intro p e s m args below meth c A QQ ls H locs hQQ hC hr hlk hw hl
  have hx := hC.1.1
  have hb := hC.1.2.1
  unfold wp_R_state at hk
  have hl : lv_has ls 1 [(0, .ref (ad 0))] := hl
  refine lv_aload_n hx hb d_R_state_0 rfl (lv_at hl 0 rfl) ?_
  refine g_R_lcdc hC hw q_28 d_R_state_1 ?_
  refine lv_sipush (v := 128) hx hb d_R_state_4 (by decide) ?_
  refine lv_iand hx hb d_R_state_7 ?_
  refine lv_if_ne (tgt := 13) hx hb d_R_state_8 (by decide) (fun hc => ?_) (fun hc => ?_)
  · have hk := hk.1 hc
    refine lv_aload_n hx hb d_R_state_13 rfl (lv_at hl 0 rfl) ?_
    refine g_R_ly hC hw q_32 d_R_state_14 ?_
    refine lv_sipush (v := 144) hx hb d_R_state_17 (by decide) ?_
    have hj1 : ∀ (H : Heap) (locs : List Loc) (ls : Array Slot) (x2 : Int32), wp_R_state_j1 x2 Q → Wd D (ceR ad cA) A s H locs M0 → lv_has ls 1 [(0, .ref (ad 0))] → W p l e rm_R_state s m args below meth c H locs 0 0 QQ (F0 m 54 ls [.int x2]) := by
      intro H locs ls x2 hk hw hl
      unfold wp_R_state_j1 at hk
      exact rt_i hQQ hx hb hr hlk hw ⟨rfl, _, rfl, hk⟩ d_R_state_54
    refine lv_icmp_lt (tgt := 27) hx hb d_R_state_20 (by decide) (fun hc => ?_) (fun hc => ?_)
    · have hk := hk.1 hc
      refine lv_aload_n hx hb d_R_state_27 rfl (lv_at hl 0 rfl) ?_
      refine g_R_dot hC hw q_40 d_R_state_28 ?_
      refine lv_bipush (v := 20) hx hb d_R_state_31 (by decide) ?_
      refine lv_icmp_ge (tgt := 40) hx hb d_R_state_33 (by decide) (fun hc => ?_) (fun hc => ?_)
      · have hk := hk.1 hc
        refine lv_aload_n hx hb d_R_state_40 rfl (lv_at hl 0 rfl) ?_
        refine g_R_dot hC hw q_40 d_R_state_41 ?_
        refine lv_bipush (v := 63) hx hb d_R_state_44 (by decide) ?_
        refine lv_icmp_ge (tgt := 53) hx hb d_R_state_46 (by decide) (fun hc => ?_) (fun hc => ?_)
        · have hk := hk.1 hc
          refine lv_iconst (v := 0) hx hb d_R_state_53 (by decide) ?_
          exact hj1 _ _ _ _ hk hw (lv_sub hl [0] rfl)
        · have hk := hk.2 hc
          refine lv_iconst (v := 3) hx hb d_R_state_49 (by decide) ?_
          refine lv_goto (tgt := 54) hx hb d_R_state_50 (by decide) ?_
          exact hj1 _ _ _ _ hk hw (lv_sub hl [0] rfl)
      · have hk := hk.2 hc
        refine lv_iconst (v := 2) hx hb d_R_state_36 (by decide) ?_
        refine lv_goto (tgt := 54) hx hb d_R_state_37 (by decide) ?_
        exact hj1 _ _ _ _ hk hw (lv_sub hl [0] rfl)
    · have hk := hk.2 hc
      refine lv_iconst (v := 1) hx hb d_R_state_23 (by decide) ?_
      refine lv_goto (tgt := 54) hx hb d_R_state_24 (by decide) ?_
      exact hj1 _ _ _ _ hk hw (lv_sub hl [0] rfl)
  · have hk := hk.2 hc
    refine lv_iconst (v := 0) hx hb d_R_state_11 (by decide) ?_
    exact rt_i hQQ hx hb hr hlk hw ⟨rfl, _, rfl, hk⟩ d_R_state_12
