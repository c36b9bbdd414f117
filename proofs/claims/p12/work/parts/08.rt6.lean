set_option maxHeartbeats 4000000 in
set_option maxRecDepth 100000 in
theorem ct_R_number {l : Launch} {D : va_G} {cA : ClassId} {ad tb : Nat → Nat} (M0 : Mem) (a1 : Int32) (a2 : Int32) (a3 : Int32) (a4 : Int32) (Q : Int32 → Prop) (hk : wp_R_number M0 a1 a2 a3 a4 Q) : Ct l y_R_number ws_R_number rm_R_number D (ceR ad cA) cA tb [.ref (ad 0), .int a1, .int a2, .int a3, .int a4] M0 (QIp M0 Q) := by
  refine Ct.of (own := "TileConsoleModel") (cc := b_R_number) (maxL := 8) (ret := (some .int)) ceR_fix (by decide) rfl rfl (Nat.le_of_ble_eq_true rfl) ?_
  intro p e s m args below meth c A QQ ls H locs hQQ hC hr hlk hw hl
  have hx := hC.1.1
  have hb := hC.1.2.1
  unfold wp_R_number at hk
  have hl : lv_has ls 8 [(0, .ref (ad 0)), (1, .int a1), (2, .int a2), (3, .int a3), (4, .int a4)] := hl
  refine lv_aload_n hx hb d_R_number_0 rfl (lv_at hl 0 rfl) ?_
  refine g_R_sprites hC hw q_3 d_R_number_1 ?_
  refine lv_iload_n hx hb d_R_number_4 rfl (lv_at hl 1 rfl) ?_
  refine lv_iconst (v := 3) hx hb d_R_number_5 (by decide) ?_
  refine lv_iadd hx hb d_R_number_6 ?_
  obtain ⟨hin, hk⟩ := hk
  refine r_ld_5 hC hw hin rfl d_R_number_7 ?_
  refine lv_topi (fun x1 e_x1 => ?_)
  have hk := hk x1 e_x1
  refine lv_istore (lv' := [(5, .int x1), (0, .ref (ad 0)), (1, .int a1), (2, .int a2), (3, .int a3), (4, .int a4)]) hx hb d_R_number_8 hl (by decide) rfl (fun ls hl => ?_)
  refine lv_iload hx hb d_R_number_10 (lv_at hl 5 rfl) ?_
  refine lv_bipush (v := 16) hx hb d_R_number_12 (by decide) ?_
  have hj1 : ∀ (H : Heap) (locs : List Loc) (ls : Array Slot) (x13 : Int32), wp_R_number_j1 M0 a2 a3 a4 x1 x13 Q → Wd D (ceR ad cA) A s H locs M0 → lv_has ls 8 [(0, .ref (ad 0)), (1, .int a1), (2, .int a2), (3, .int a3), (4, .int a4), (5, .int x1)] → W p l e rm_R_number s m args below meth c H locs 0 0 QQ (F0 m 40 ls [.int x13]) := by
    intro H locs ls x13 hk hw hl
    unfold wp_R_number_j1 at hk
    refine lv_istore (lv' := [(6, .int x13), (0, .ref (ad 0)), (1, .int a1), (2, .int a2), (3, .int a3), (4, .int a4), (5, .int x1)]) hx hb d_R_number_40 hl (by decide) rfl (fun ls hl => ?_)
    refine lv_iload hx hb d_R_number_42 (lv_at hl 6 rfl) ?_
    refine lv_bipush (v := 64) hx hb d_R_number_44 (by decide) ?_
    refine lv_iand hx hb d_R_number_46 ?_
    have hj2 : ∀ (H : Heap) (locs : List Loc) (ls : Array Slot) (x19 : Int32), wp_R_number_j2 M0 a3 x1 x13 x19 Q → Wd D (ceR ad cA) A s H locs M0 → lv_has ls 8 [(0, .ref (ad 0)), (1, .int a1), (2, .int a2), (3, .int a3), (4, .int a4), (5, .int x1), (6, .int x13)] → W p l e rm_R_number s m args below meth c H locs 0 0 QQ (F0 m 60 ls [.int x19]) := by
      intro H locs ls x19 hk hw hl
      unfold wp_R_number_j2 at hk
      refine lv_istore (lv' := [(7, .int x19), (0, .ref (ad 0)), (1, .int a1), (2, .int a2), (3, .int a3), (4, .int a4), (5, .int x1), (6, .int x13)]) hx hb d_R_number_60 hl (by decide) rfl (fun ls hl => ?_)
      refine lv_aload_n hx hb d_R_number_62 rfl (lv_at hl 1 rfl) ?_
      refine lv_ldc (v := (32768 : Int32)) hx hb hC.1.2.2.2.1 (hC.1.2.2.2.2 _ q_52) d_R_number_63 ?_
      refine lv_bipush (v := 16) hx hb d_R_number_65 (by decide) ?_
      refine lv_iload hx hb d_R_number_67 (lv_at hl 7 rfl) ?_
      refine lv_imul hx hb d_R_number_69 ?_
      refine lv_iadd hx hb d_R_number_70 ?_
      refine lv_iconst (v := 2) hx hb d_R_number_71 (by decide) ?_
      refine lv_iload hx hb d_R_number_72 (lv_at hl 0 rfl) ?_
      refine lv_imul hx hb d_R_number_74 ?_
      refine lv_iadd hx hb d_R_number_75 ?_
      refine lv_iload hx hb d_R_number_76 (lv_at hl 6 rfl) ?_
      refine lv_bipush (v := 32) hx hb d_R_number_78 (by decide) ?_
      refine lv_iand hx hb d_R_number_80 ?_
      have hj3 : ∀ (H : Heap) (locs : List Loc) (ls : Array Slot) (x22 : Int32), wp_R_number_j3 M0 x13 x19 x22 Q → Wd D (ceR ad cA) A s H locs M0 → lv_has ls 8 [(0, .ref (ad 0)), (1, .int a1), (2, .int a2), (3, .int a3), (4, .int a4), (5, .int x1), (6, .int x13), (7, .int x19)] → W p l e rm_R_number s m args below meth c H locs 0 0 QQ (F0 m 92 ls [.int x22, .int (((32768 : Int32) + ((16 : Int32) * x13)) + ((2 : Int32) * x19)), .ref (ad 0)]) := by
        intro H locs ls x22 hk hw hl
        unfold wp_R_number_j3 at hk
        refine cl_Vip (j := 0) (As := [.int (((32768 : Int32) + ((16 : Int32) * x13)) + ((2 : Int32) * x19)), .int x22]) hC hw (ct_R_dots _ _ _ _ hk) q_108 mw_R_dots rfl ⟨rfl, rfl, Nat.le_of_ble_eq_true rfl, Nat.le_of_ble_eq_true rfl⟩ rfl rfl rfl hl.1 rfl (Nat.le_of_ble_eq_true rfl) d_R_number_92 (fun H locs x23 hk hw => ?_)
        exact rt_i hQQ hx hb hr hlk hw ⟨rfl, _, rfl, hk⟩ d_R_number_95
      refine lv_if_le (tgt := 91) hx hb d_R_number_81 (by decide) (fun hc => ?_) (fun hc => ?_)
      · have hk := hk.1 hc
        refine lv_iload_n hx hb d_R_number_91 rfl (lv_at hl 4 rfl) ?_
        exact hj3 _ _ _ _ hk hw (lv_sub hl [1, 2, 3, 4, 5, 6, 7, 0] rfl)
      · have hk := hk.2 hc
        refine lv_bipush (v := 7) hx hb d_R_number_84 (by decide) ?_
        refine lv_iload_n hx hb d_R_number_86 rfl (lv_at hl 4 rfl) ?_
        refine lv_isub hx hb d_R_number_87 ?_
        refine lv_goto (tgt := 92) hx hb d_R_number_88 (by decide) ?_
        exact hj3 _ _ _ _ hk hw (lv_sub hl [1, 2, 3, 4, 5, 6, 7, 0] rfl)
    refine lv_if_le (tgt := 59) hx hb d_R_number_47 (by decide) (fun hc => ?_) (fun hc => ?_)
    · have hk := hk.1 hc
      refine lv_iload_n hx hb d_R_number_59 rfl (lv_at hl 3 rfl) ?_
      exact hj2 _ _ _ _ hk hw (lv_sub hl [1, 2, 3, 4, 5, 6, 0] rfl)
    · have hk := hk.2 hc
      refine lv_iload hx hb d_R_number_50 (lv_at hl 5 rfl) ?_
      refine lv_iconst (v := 1) hx hb d_R_number_52 (by decide) ?_
      refine lv_isub hx hb d_R_number_53 ?_
      refine lv_iload_n hx hb d_R_number_54 rfl (lv_at hl 3 rfl) ?_
      refine lv_isub hx hb d_R_number_55 ?_
      refine lv_goto (tgt := 60) hx hb d_R_number_56 (by decide) ?_
      exact hj2 _ _ _ _ hk hw (lv_sub hl [1, 2, 3, 4, 5, 6, 0] rfl)
  refine lv_icmp_ne (tgt := 32) hx hb d_R_number_14 (by decide) (fun hc => ?_) (fun hc => ?_)
  · have hk := hk.1 hc
    refine lv_aload_n hx hb d_R_number_32 rfl (lv_at hl 1 rfl) ?_
    refine g_R_sprites hC hw q_3 d_R_number_33 ?_
    refine lv_iload_n hx hb d_R_number_36 rfl (lv_at hl 2 rfl) ?_
    refine lv_iconst (v := 2) hx hb d_R_number_37 (by decide) ?_
    refine lv_iadd hx hb d_R_number_38 ?_
    obtain ⟨hin, hk⟩ := hk
    refine r_ld_5 hC hw hin rfl d_R_number_39 ?_
    exact hj1 _ _ _ _ hk hw (lv_sub hl [1, 2, 3, 4, 5, 0] rfl)
  · have hk := hk.2 hc
    refine lv_aload_n hx hb d_R_number_17 rfl (lv_at hl 1 rfl) ?_
    refine g_R_sprites hC hw q_3 d_R_number_18 ?_
    refine lv_iload_n hx hb d_R_number_21 rfl (lv_at hl 2 rfl) ?_
    refine lv_iconst (v := 2) hx hb d_R_number_22 (by decide) ?_
    refine lv_iadd hx hb d_R_number_23 ?_
    obtain ⟨hin, hk⟩ := hk
    refine r_ld_5 hC hw hin rfl d_R_number_24 ?_
    refine lv_sipush (v := 254) hx hb d_R_number_25 (by decide) ?_
    refine lv_iand hx hb d_R_number_28 ?_
    refine lv_goto (tgt := 40) hx hb d_R_number_29 (by decide) ?_
    exact hj1 _ _ _ _ hk hw (lv_sub hl [1, 2, 3, 4, 5, 0] rfl)
set_option maxHeartbeats 4000000 in
set_option maxRecDepth 100000 in
theorem ct_R_sprite {l : Launch} {D : va_G} {cA : ClassId} {ad tb : Nat → Nat} (M0 : Mem) (a1 : Int32) (a2 : Int32) (Q : Int32 → Prop) (hk : wp_R_sprite M0 a1 a2 Q) : Ct l y_R_sprite ws_R_sprite rm_R_sprite D (ceR ad cA) cA tb [.ref (ad 0), .int a1, .int a2] M0 (QIp M0 Q) := by
  refine Ct.of (own := "TileConsoleModel") (cc := b_R_sprite) (maxL := 9) (ret := (some .int)) ceR_fix (by decide) rfl rfl (Nat.le_of_ble_eq_true rfl) ?_
  intro p e s m args below meth c A QQ ls H locs hQQ hC hr hlk hw hl
  have hx := hC.1.1
  have hb := hC.1.2.1
  unfold wp_R_sprite at hk
  have hl : lv_has ls 9 [(0, .ref (ad 0)), (1, .int a1), (2, .int a2)] := hl
  refine lv_aload_n hx hb d_R_sprite_0 rfl (lv_at hl 0 rfl) ?_
  refine g_R_lcdc hC hw q_28 d_R_sprite_1 ?_
  refine lv_iconst (v := 4) hx hb d_R_sprite_4 (by decide) ?_
  refine lv_iand hx hb d_R_sprite_5 ?_
  have hj1 : ∀ (H : Heap) (locs : List Loc) (ls : Array Slot) (x29 : Int32), wp_R_sprite_j1 M0 a1 a2 x29 Q → Wd D (ceR ad cA) A s H locs M0 → lv_has ls 9 [(0, .ref (ad 0)), (1, .int a1), (2, .int a2)] → W p l e rm_R_sprite s m args below meth c H locs 0 0 QQ (F0 m 16 ls [.int x29]) := by
    intro H locs ls x29 hk hw hl
    unfold wp_R_sprite_j1 at hk
    refine lv_istore_n (lv' := [(3, .int x29), (0, .ref (ad 0)), (1, .int a1), (2, .int a2)]) hx hb d_R_sprite_16 rfl hl (by decide) rfl (fun ls hl => ?_)
    refine lv_iconst (v := 0) hx hb d_R_sprite_17 (by decide) ?_
    refine lv_istore (lv' := [(4, .int (0 : Int32)), (3, .int x29), (0, .ref (ad 0)), (1, .int a1), (2, .int a2)]) hx hb d_R_sprite_18 hl (by decide) rfl (fun ls hl => ?_)
    refine lv_iconst (v := (-1)) hx hb d_R_sprite_20 (by decide) ?_
    refine lv_istore (lv' := [(5, .int (-1 : Int32)), (4, .int (0 : Int32)), (3, .int x29), (0, .ref (ad 0)), (1, .int a1), (2, .int a2)]) hx hb d_R_sprite_21 hl (by decide) rfl (fun ls hl => ?_)
    refine lv_iconst (v := 0) hx hb d_R_sprite_23 (by decide) ?_
    refine lv_istore (lv' := [(6, .int (0 : Int32)), (5, .int (-1 : Int32)), (4, .int (0 : Int32)), (3, .int x29), (0, .ref (ad 0)), (1, .int a1), (2, .int a2)]) hx hb d_R_sprite_24 hl (by decide) rfl (fun ls hl => ?_)
    have hl1 : ∀ (n : Nat) (H : Heap) (locs : List Loc) (ls : Array Slot) (x30 : Int32) (x31 : Int32) (x32 : Int32), wp_R_sprite_l1 M0 a1 a2 x29 Q n x30 x31 x32 → Wd D (ceR ad cA) A s H locs M0 → lv_has ls 9 [(0, .ref (ad 0)), (1, .int a1), (2, .int a2), (3, .int x29), (4, .int x30), (5, .int x31), (6, .int x32)] → W p l e rm_R_sprite s m args below meth c H locs 0 0 QQ (F0 m 26 ls []) := by
      intro n
      induction n with
      | zero => intro H locs ls x30 x31 x32 hk; exact False.elim hk
      | succ n1 ih1 =>
        intro H locs ls x30 x31 x32 hk hw hl
        refine lv_iload hx hb d_R_sprite_26 (lv_at hl 6 rfl) ?_
        refine lv_sipush (v := 160) hx hb d_R_sprite_28 (by decide) ?_
        have hj2 : ∀ (H : Heap) (locs : List Loc) (ls : Array Slot), wp_R_sprite_j2 x31 Q → Wd D (ceR ad cA) A s H locs M0 → lv_has ls 9 [(0, .ref (ad 0)), (1, .int a1), (2, .int a2), (3, .int x29), (4, .int x30), (5, .int x31), (6, .int x32)] → W p l e rm_R_sprite s m args below meth c H locs 0 0 QQ (F0 m 162 ls []) := by
          intro H locs ls  hk hw hl
          unfold wp_R_sprite_j2 at hk
          refine lv_iload hx hb d_R_sprite_162 (lv_at hl 5 rfl) ?_
          exact rt_i hQQ hx hb hr hlk hw ⟨rfl, _, rfl, hk⟩ d_R_sprite_164
        refine lv_icmp_ge (tgt := 162) hx hb d_R_sprite_31 (by decide) (fun hc => ?_) (fun hc => ?_)
        · have hk := hk.1 hc
          exact hj2 _ _ _  hk hw (lv_sub hl [0, 1, 2, 3, 4, 5, 6] rfl)
        · have hk := hk.2 hc
          refine lv_iload hx hb d_R_sprite_34 (lv_at hl 4 rfl) ?_
          refine lv_bipush (v := 10) hx hb d_R_sprite_36 (by decide) ?_
          refine lv_icmp_ge (tgt := 162) hx hb d_R_sprite_38 (by decide) (fun hc => ?_) (fun hc => ?_)
          · have hk := hk.1 hc
            exact hj2 _ _ _  hk hw (lv_sub hl [0, 1, 2, 3, 4, 5, 6] rfl)
          · have hk := hk.2 hc
            refine lv_aload_n hx hb d_R_sprite_41 rfl (lv_at hl 0 rfl) ?_
            refine g_R_lcdc hC hw q_28 d_R_sprite_42 ?_
            refine lv_iconst (v := 2) hx hb d_R_sprite_45 (by decide) ?_
            refine lv_iand hx hb d_R_sprite_46 ?_
            refine lv_if_le (tgt := 162) hx hb d_R_sprite_47 (by decide) (fun hc => ?_) (fun hc => ?_)
            · have hk := hk.1 hc
              exact hj2 _ _ _  hk hw (lv_sub hl [0, 1, 2, 3, 4, 5, 6] rfl)
            · have hk := hk.2 hc
              refine lv_iload_n hx hb d_R_sprite_50 rfl (lv_at hl 2 rfl) ?_
              refine lv_aload_n hx hb d_R_sprite_51 rfl (lv_at hl 0 rfl) ?_
              refine g_R_sprites hC hw q_3 d_R_sprite_52 ?_
              refine lv_iload hx hb d_R_sprite_55 (lv_at hl 6 rfl) ?_
              obtain ⟨hin, hk⟩ := hk
              refine r_ld_5 hC hw hin rfl d_R_sprite_57 ?_
              refine lv_bipush (v := 16) hx hb d_R_sprite_58 (by decide) ?_
              refine lv_isub hx hb d_R_sprite_60 ?_
              refine lv_isub hx hb d_R_sprite_61 ?_
              refine lv_topi (fun x45 e_x45 => ?_)
              have hk := hk x45 e_x45
              refine lv_istore (lv' := [(7, .int x45), (0, .ref (ad 0)), (1, .int a1), (2, .int a2), (3, .int x29), (4, .int x30), (5, .int x31), (6, .int x32)]) hx hb d_R_sprite_62 hl (by decide) rfl (fun ls hl => ?_)
              refine lv_iload_n hx hb d_R_sprite_64 rfl (lv_at hl 2 rfl) ?_
              refine lv_aload_n hx hb d_R_sprite_65 rfl (lv_at hl 1 rfl) ?_
              refine g_R_sprites hC hw q_3 d_R_sprite_66 ?_
              refine lv_iload hx hb d_R_sprite_69 (lv_at hl 7 rfl) ?_
              refine lv_iconst (v := 1) hx hb d_R_sprite_71 (by decide) ?_
              refine lv_iadd hx hb d_R_sprite_72 ?_
              obtain ⟨hin, hk⟩ := hk
              refine r_ld_5 hC hw hin rfl d_R_sprite_73 ?_
              refine lv_bipush (v := 8) hx hb d_R_sprite_74 (by decide) ?_
              refine lv_isub hx hb d_R_sprite_76 ?_
              refine lv_isub hx hb d_R_sprite_77 ?_
              refine lv_topi (fun x46 e_x46 => ?_)
              have hk := hk x46 e_x46
              refine lv_istore (lv' := [(8, .int x46), (7, .int x45), (0, .ref (ad 0)), (1, .int a1), (2, .int a2), (3, .int x29), (4, .int x30), (5, .int x31), (6, .int x32)]) hx hb d_R_sprite_78 hl (by decide) rfl (fun ls hl => ?_)
              refine lv_iload hx hb d_R_sprite_80 (lv_at hl 1 rfl) ?_
              have hj3 : ∀ (H : Heap) (locs : List Loc) (ls : Array Slot) (x52 : Int32) (x53 : Int32), wp_R_sprite_j3 x32 (wp_R_sprite_l1 M0 a1 a2 x29 Q n1) x52 x53 Q → Wd D (ceR ad cA) A s H locs M0 → lv_has ls 9 [(0, .ref (ad 0)), (1, .int a1), (2, .int a2), (3, .int x29), (4, .int x52), (5, .int x53), (6, .int x32), (7, .int x45), (8, .int x46)] → W p l e rm_R_sprite s m args below meth c H locs 0 0 QQ (F0 m 156 ls []) := by
                intro H locs ls x52 x53 hk hw hl
                unfold wp_R_sprite_j3 at hk
                obtain ⟨x54, e_x54⟩ : ∃ y : Int32, y = x32 + (4 : Int32) := ⟨_, rfl⟩
                have hk := hk x54 e_x54
                refine lv_iinc (v := x54) (lv' := [(6, .int x54), (0, .ref (ad 0)), (1, .int a1), (2, .int a2), (3, .int x29), (4, .int x52), (5, .int x53), (7, .int x45), (8, .int x46)]) hx hb d_R_sprite_156 hl (k := 6) rfl (by rw [e_x54]; rfl) (by decide) rfl (fun ls hl => ?_)
                refine lv_goto (tgt := 26) hx hb d_R_sprite_159 (by decide) ?_
                exact ih1 _ _ _ _ _ _ hk hw (lv_sub hl [1, 2, 3, 4, 5, 6, 0] rfl)
              refine lv_if_lt (tgt := 156) hx hb d_R_sprite_82 (by decide) (fun hc => ?_) (fun hc => ?_)
              · have hk := hk.1 hc
                exact hj3 _ _ _ _ _ hk hw (lv_sub hl [2, 3, 4, 5, 6, 7, 8, 1, 0] rfl)
              · have hk := hk.2 hc
                refine lv_iload hx hb d_R_sprite_85 (lv_at hl 1 rfl) ?_
                refine lv_iload_n hx hb d_R_sprite_87 rfl (lv_at hl 5 rfl) ?_
                refine lv_icmp_lt (tgt := 94) hx hb d_R_sprite_88 (by decide) (fun hc => ?_) (fun hc => ?_)
                · have hk := hk.1 hc
                  obtain ⟨x55, e_x55⟩ : ∃ y : Int32, y = x30 + (1 : Int32) := ⟨_, rfl⟩
                  have hk := hk x55 e_x55
                  refine lv_iinc (v := x55) (lv' := [(4, .int x55), (8, .int x46), (7, .int x45), (0, .ref (ad 0)), (1, .int a1), (2, .int a2), (3, .int x29), (5, .int x31), (6, .int x32)]) hx hb d_R_sprite_94 hl (k := 6) rfl (by rw [e_x55]; rfl) (by decide) rfl (fun ls hl => ?_)
                  refine lv_iload hx hb d_R_sprite_97 (lv_at hl 1 rfl) ?_
                  refine lv_if_lt (tgt := 156) hx hb d_R_sprite_99 (by decide) (fun hc => ?_) (fun hc => ?_)
                  · have hk := hk.1 hc
                    exact hj3 _ _ _ _ _ hk hw (lv_sub hl [3, 4, 5, 6, 0, 7, 8, 2, 1] rfl)
                  · have hk := hk.2 hc
                    refine lv_iload hx hb d_R_sprite_102 (lv_at hl 1 rfl) ?_
                    refine lv_bipush (v := 7) hx hb d_R_sprite_104 (by decide) ?_
                    refine lv_icmp_gt (tgt := 156) hx hb d_R_sprite_106 (by decide) (fun hc => ?_) (fun hc => ?_)
                    · have hk := hk.1 hc
                      exact hj3 _ _ _ _ _ hk hw (lv_sub hl [3, 4, 5, 6, 0, 7, 8, 2, 1] rfl)
                    · have hk := hk.2 hc
                      refine lv_aload_n hx hb d_R_sprite_109 rfl (lv_at hl 3 rfl) ?_
                      refine lv_iload hx hb d_R_sprite_110 (lv_at hl 8 rfl) ?_
                      refine lv_iload hx hb d_R_sprite_112 (lv_at hl 2 rfl) ?_
                      refine lv_iload hx hb d_R_sprite_114 (lv_at hl 1 rfl) ?_
                      refine lv_iload_n hx hb d_R_sprite_116 rfl (lv_at hl 6 rfl) ?_
                      refine cl_Vip (j := 0) (As := [.int x32, .int x45, .int x46, .int x29]) hC hw (ct_R_number _ _ _ _ _ _ hk) q_109 mw_R_number rfl ⟨rfl, rfl, Nat.le_of_ble_eq_true rfl, Nat.le_of_ble_eq_true rfl⟩ rfl rfl rfl hl.1 rfl (Nat.le_of_ble_eq_true rfl) d_R_sprite_117 (fun H locs x56 hk hw => ?_)
                      refine lv_if_ne (tgt := 126) hx hb d_R_sprite_120 (by decide) (fun hc => ?_) (fun hc => ?_)
                      · have hk := hk.1 hc
                        refine lv_iload hx hb d_R_sprite_126 (lv_at hl 7 rfl) ?_
                        have hj4 : ∀ (H : Heap) (locs : List Loc) (ls : Array Slot), wp_R_sprite_j4 x32 x55 (wp_R_sprite_l1 M0 a1 a2 x29 Q n1) Q → Wd D (ceR ad cA) A s H locs M0 → lv_has ls 9 [(0, .ref (ad 0)), (1, .int a1), (2, .int a2), (3, .int x29), (4, .int x55), (5, .int x31), (6, .int x32), (7, .int x45), (8, .int x46)] → W p l e rm_R_sprite s m args below meth c H locs 0 0 QQ (F0 m 152 ls []) := by
                          intro H locs ls  hk hw hl
                          unfold wp_R_sprite_j4 at hk
                          refine lv_iload hx hb d_R_sprite_152 (lv_at hl 6 rfl) ?_
                          refine lv_istore (lv' := [(5, .int x32), (0, .ref (ad 0)), (1, .int a1), (2, .int a2), (3, .int x29), (4, .int x55), (6, .int x32), (7, .int x45), (8, .int x46)]) hx hb d_R_sprite_154 hl (by decide) rfl (fun ls hl => ?_)
                          exact hj3 _ _ _ _ _ hk hw (lv_sub hl [1, 2, 3, 4, 5, 0, 6, 7, 8] rfl)
                        refine lv_if_lt (tgt := 152) hx hb d_R_sprite_128 (by decide) (fun hc => ?_) (fun hc => ?_)
                        · have hk := hk.1 hc
                          exact hj4 _ _ _  hk hw (lv_sub hl [3, 4, 5, 6, 0, 7, 8, 2, 1] rfl)
                        · have hk := hk.2 hc
                          refine lv_aload_n hx hb d_R_sprite_131 rfl (lv_at hl 3 rfl) ?_
                          refine g_R_sprites hC hw q_3 d_R_sprite_132 ?_
                          refine lv_iload hx hb d_R_sprite_135 (lv_at hl 8 rfl) ?_
                          refine lv_iconst (v := 1) hx hb d_R_sprite_137 (by decide) ?_
                          refine lv_iadd hx hb d_R_sprite_138 ?_
                          obtain ⟨hin, hk⟩ := hk
                          refine r_ld_5 hC hw hin rfl d_R_sprite_139 ?_
                          refine lv_aload_n hx hb d_R_sprite_140 rfl (lv_at hl 3 rfl) ?_
                          refine g_R_sprites hC hw q_3 d_R_sprite_141 ?_
                          refine lv_iload hx hb d_R_sprite_144 (lv_at hl 7 rfl) ?_
                          refine lv_iconst (v := 1) hx hb d_R_sprite_146 (by decide) ?_
                          refine lv_iadd hx hb d_R_sprite_147 ?_
                          obtain ⟨hin, hk⟩ := hk
                          refine r_ld_5 hC hw hin rfl d_R_sprite_148 ?_
                          refine lv_icmp_ge (tgt := 156) hx hb d_R_sprite_149 (by decide) (fun hc => ?_) (fun hc => ?_)
                          · have hk := hk.1 hc
                            exact hj3 _ _ _ _ _ hk hw (lv_sub hl [3, 4, 5, 6, 0, 7, 8, 2, 1] rfl)
                          · have hk := hk.2 hc
                            exact hj4 _ _ _  hk hw (lv_sub hl [3, 4, 5, 6, 0, 7, 8, 2, 1] rfl)
                      · have hk := hk.2 hc
                        refine lv_goto (tgt := 156) hx hb d_R_sprite_123 (by decide) ?_
                        exact hj3 _ _ _ _ _ hk hw (lv_sub hl [3, 4, 5, 6, 0, 7, 8, 2, 1] rfl)
                · have hk := hk.2 hc
                  refine lv_goto (tgt := 156) hx hb d_R_sprite_91 (by decide) ?_
                  exact hj3 _ _ _ _ _ hk hw (lv_sub hl [2, 3, 4, 5, 6, 7, 8, 1, 0] rfl)
    obtain ⟨n, hk⟩ := hk
    exact hl1 n _ _ _ _ _ _ hk hw (lv_sub hl [4, 5, 6, 3, 2, 1, 0] rfl)
  refine lv_if_le (tgt := 14) hx hb d_R_sprite_6 (by decide) (fun hc => ?_) (fun hc => ?_)
  · have hk := hk.1 hc
    refine lv_bipush (v := 8) hx hb d_R_sprite_14 (by decide) ?_
    exact hj1 _ _ _ _ hk hw (lv_sub hl [0, 1, 2] rfl)
  · have hk := hk.2 hc
    refine lv_bipush (v := 16) hx hb d_R_sprite_9 (by decide) ?_
    refine lv_goto (tgt := 16) hx hb d_R_sprite_11 (by decide) ?_
    exact hj1 _ _ _ _ hk hw (lv_sub hl [0, 1, 2] rfl)
set_option maxHeartbeats 4000000 in
set_option maxRecDepth 100000 in
theorem ct_R_row {l : Launch} {D : va_G} {cA : ClassId} {ad tb : Nat → Nat} (M0 : Mem) (a1 : Int32) (Q : Int32 → Mem → Prop) (hk : wp_R_row M0 a1 Q) : Ct l y_R_row ws_R_row rm_R_row D (ceR ad cA) cA tb [.ref (ad 0), .int a1] M0 (QI Q) := by
  refine Ct.of (own := "TileConsoleModel") (cc := b_R_row) (maxL := 9) (ret := (some .int)) ceR_fix (by decide) rfl rfl (Nat.le_of_ble_eq_true rfl) ?_
  intro p e s m args below meth c A QQ ls H locs hQQ hC hr hlk hw hl
  have hx := hC.1.1
  have hb := hC.1.2.1
  unfold wp_R_row at hk
  have hl : lv_has ls 9 [(0, .ref (ad 0)), (1, .int a1)] := hl
  refine lv_aload_n hx hb d_R_row_0 rfl (lv_at hl 0 rfl) ?_
  refine lv_iconst (v := 0) hx hb d_R_row_1 (by decide) ?_
  refine p_R_err hC hw q_46 d_R_row_2 (fun H locs M1 e_M1 hw => ?_)
  have hk := hk M1 e_M1
  refine lv_aload_n hx hb d_R_row_5 rfl (lv_at hl 0 rfl) ?_
  refine lv_iload_n hx hb d_R_row_6 rfl (lv_at hl 1 rfl) ?_
  refine lv_iconst (v := 0) hx hb d_R_row_7 (by decide) ?_
  refine lv_sipush (v := 143) hx hb d_R_row_8 (by decide) ?_
  refine cl_Sip (As := [.int a1, .int (0 : Int32), .int (143 : Int32)]) hC hw (ct_R_in _ _ _ _ _ hk) q_97 mw_R_in rfl ⟨rfl, rfl, Nat.le_of_ble_eq_true rfl, Nat.le_of_ble_eq_true rfl⟩ rfl hl.1 rfl (Nat.le_of_ble_eq_true rfl) d_R_row_11 (fun H locs x2 hk hw => ?_)
  have hj1 : ∀ (H : Heap) (locs : List Loc) (ls : Array Slot) (x78 : Int32), wp_R_row_j1 a1 M1 x78 Q → Wd D (ceR ad cA) A s H locs M1 → lv_has ls 9 [(0, .ref (ad 0)), (1, .int a1)] → W p l e rm_R_row s m args below meth c H locs 0 0 QQ (F0 m 22 ls [.int x78, .ref (ad 0)]) := by
    intro H locs ls x78 hk hw hl
    unfold wp_R_row_j1 at hk
    refine lv_iconst (v := 1) hx hb d_R_row_22 (by decide) ?_
    refine cl_Vi (j := 0) (As := [.int x78, .int (1 : Int32)]) hC hw (ct_R_fails _ _ _ _ hk) q_98 mw_R_fails rfl ⟨rfl, rfl, Nat.le_of_ble_eq_true rfl, Nat.le_of_ble_eq_true rfl⟩ rfl rfl rfl hl.1 rfl (Nat.le_of_ble_eq_true rfl) d_R_row_23 (fun H locs x79 M80 hk hw => ?_)
    refine lv_if_eq (tgt := 31) hx hb d_R_row_26 (by decide) (fun hc => ?_) (fun hc => ?_)
    · have hk := hk.1 hc
      refine lv_iconst (v := 0) hx hb d_R_row_31 (by decide) ?_
      refine lv_istore_n (lv' := [(2, .int (0 : Int32)), (0, .ref (ad 0)), (1, .int a1)]) hx hb d_R_row_32 rfl hl (by decide) rfl (fun ls hl => ?_)
      refine lv_iconst (v := 0) hx hb d_R_row_33 (by decide) ?_
      refine lv_istore_n (lv' := [(3, .int (0 : Int32)), (2, .int (0 : Int32)), (0, .ref (ad 0)), (1, .int a1)]) hx hb d_R_row_34 rfl hl (by decide) rfl (fun ls hl => ?_)
      have hl1 : ∀ (n : Nat) (H : Heap) (locs : List Loc) (ls : Array Slot) (x81 : Int32) (x82 : Int32) (M83 : Mem), wp_R_row_l1 a1 Q n x81 x82 M83 → Wd D (ceR ad cA) A s H locs M83 → lv_has ls 9 [(0, .ref (ad 0)), (1, .int a1), (2, .int x81), (3, .int x82)] → W p l e rm_R_row s m args below meth c H locs 0 0 QQ (F0 m 35 ls []) := by
        intro n
        induction n with
        | zero => intro H locs ls x81 x82 M83 hk; exact False.elim hk
        | succ n1 ih1 =>
          intro H locs ls x81 x82 M83 hk hw hl
          refine lv_iload_n hx hb d_R_row_35 rfl (lv_at hl 3 rfl) ?_
          refine lv_sipush (v := 160) hx hb d_R_row_36 (by decide) ?_
          refine lv_icmp_ge (tgt := 224) hx hb d_R_row_39 (by decide) (fun hc => ?_) (fun hc => ?_)
          · have hk := hk.1 hc
            refine lv_iload_n hx hb d_R_row_224 rfl (lv_at hl 2 rfl) ?_
            exact rt_i hQQ hx hb hr hlk hw ⟨_, rfl, hk⟩ d_R_row_225
          · have hk := hk.2 hc
            refine lv_aload_n hx hb d_R_row_42 rfl (lv_at hl 0 rfl) ?_
            refine lv_iload_n hx hb d_R_row_43 rfl (lv_at hl 3 rfl) ?_
            refine lv_iload_n hx hb d_R_row_44 rfl (lv_at hl 1 rfl) ?_
            refine cl_Vip (j := 0) (As := [.int x82, .int a1]) hC hw (ct_R_background _ _ _ _ hk) q_110 mw_R_background rfl ⟨rfl, rfl, Nat.le_of_ble_eq_true rfl, Nat.le_of_ble_eq_true rfl⟩ rfl rfl rfl hl.1 rfl (Nat.le_of_ble_eq_true rfl) d_R_row_45 (fun H locs x84 hk hw => ?_)
            refine lv_istore (lv' := [(4, .int x84), (0, .ref (ad 0)), (1, .int a1), (2, .int x81), (3, .int x82)]) hx hb d_R_row_48 hl (by decide) rfl (fun ls hl => ?_)
            refine lv_aload_n hx hb d_R_row_50 rfl (lv_at hl 1 rfl) ?_
            refine lv_iload_n hx hb d_R_row_51 rfl (lv_at hl 4 rfl) ?_
            refine lv_iload_n hx hb d_R_row_52 rfl (lv_at hl 2 rfl) ?_
            refine cl_Vip (j := 0) (As := [.int x82, .int a1]) hC hw (ct_R_sprite _ _ _ _ hk) q_111 mw_R_sprite rfl ⟨rfl, rfl, Nat.le_of_ble_eq_true rfl, Nat.le_of_ble_eq_true rfl⟩ rfl rfl rfl hl.1 rfl (Nat.le_of_ble_eq_true rfl) d_R_row_53 (fun H locs x85 hk hw => ?_)
            refine lv_istore (lv' := [(5, .int x85), (4, .int x84), (0, .ref (ad 0)), (1, .int a1), (2, .int x81), (3, .int x82)]) hx hb d_R_row_56 hl (by decide) rfl (fun ls hl => ?_)
            refine lv_aload_n hx hb d_R_row_58 rfl (lv_at hl 2 rfl) ?_
            refine g_R_bgp hC hw q_35 d_R_row_59 ?_
            refine lv_iconst (v := 2) hx hb d_R_row_62 (by decide) ?_
            refine lv_iload hx hb d_R_row_63 (lv_at hl 1 rfl) ?_
            refine lv_imul hx hb d_R_row_65 ?_
            refine lv_ishr hx hb d_R_row_66 ?_
            refine lv_iconst (v := 3) hx hb d_R_row_67 (by decide) ?_
            refine lv_iand hx hb d_R_row_68 ?_
            refine lv_topi (fun x86 e_x86 => ?_)
            have hk := hk x86 e_x86
            refine lv_istore (lv' := [(6, .int x86), (5, .int x85), (4, .int x84), (0, .ref (ad 0)), (1, .int a1), (2, .int x81), (3, .int x82)]) hx hb d_R_row_69 hl (by decide) rfl (fun ls hl => ?_)
            refine lv_iload hx hb d_R_row_71 (lv_at hl 1 rfl) ?_
            have hj2 : ∀ (H : Heap) (locs : List Loc) (ls : Array Slot) (x120 : Int32), wp_R_row_j2 x81 x82 M83 (wp_R_row_l1 a1 Q n1) x120 Q → Wd D (ceR ad cA) A s H locs M83 → lv_has ls 9 [(0, .ref (ad 0)), (1, .int a1), (2, .int x81), (3, .int x82), (4, .int x84), (5, .int x85), (6, .int x120)] → W p l e rm_R_row s m args below meth c H locs 0 0 QQ (F0 m 186 ls []) := by
              intro H locs ls x120 hk hw hl
              unfold wp_R_row_j2 at hk
              refine lv_aload_n hx hb d_R_row_186 rfl (lv_at hl 0 rfl) ?_
              refine g_R_line hC hw q_5 d_R_row_187 ?_
              refine lv_iload_n hx hb d_R_row_190 rfl (lv_at hl 3 rfl) ?_
              refine lv_aload_n hx hb d_R_row_191 rfl (lv_at hl 0 rfl) ?_
              refine g_R_lcdc hC hw q_28 d_R_row_192 ?_
              refine lv_sipush (v := 128) hx hb d_R_row_195 (by decide) ?_
              refine lv_iand hx hb d_R_row_198 ?_
              have hj3 : ∀ (H : Heap) (locs : List Loc) (ls : Array Slot) (x125 : Int32), wp_R_row_j3 x81 x82 M83 (wp_R_row_l1 a1 Q n1) x125 Q → Wd D (ceR ad cA) A s H locs M83 → lv_has ls 9 [(0, .ref (ad 0)), (1, .int a1), (2, .int x81), (3, .int x82), (4, .int x84), (5, .int x85), (6, .int x120)] → W p l e rm_R_row s m args below meth c H locs 0 0 QQ (F0 m 208 ls [.int x125, .int x82, .ref (ad 7)]) := by
                intro H locs ls x125 hk hw hl
                unfold wp_R_row_j3 at hk
                obtain ⟨hin, hk⟩ := hk
                refine r_st_7 hC hw hin rfl d_R_row_208 (fun H locs M126 e_M126 hw => ?_)
                have hk := hk M126 e_M126
                refine lv_iload_n hx hb d_R_row_209 rfl (lv_at hl 2 rfl) ?_
                refine lv_aload_n hx hb d_R_row_210 rfl (lv_at hl 0 rfl) ?_
                refine g_R_line hC hw q_5 d_R_row_211 ?_
                refine lv_iload_n hx hb d_R_row_214 rfl (lv_at hl 3 rfl) ?_
                obtain ⟨hin, hk⟩ := hk
                refine r_ld_7 hC hw hin rfl d_R_row_215 ?_
                refine lv_iadd hx hb d_R_row_216 ?_
                refine lv_topi (fun x127 e_x127 => ?_)
                have hk := hk x127 e_x127
                refine lv_istore_n (lv' := [(2, .int x127), (0, .ref (ad 0)), (1, .int a1), (3, .int x82), (4, .int x84), (5, .int x85), (6, .int x120)]) hx hb d_R_row_217 rfl hl (by decide) rfl (fun ls hl => ?_)
                obtain ⟨x128, e_x128⟩ : ∃ y : Int32, y = x82 + (1 : Int32) := ⟨_, rfl⟩
                have hk := hk x128 e_x128
                refine lv_iinc (v := x128) (lv' := [(3, .int x128), (2, .int x127), (0, .ref (ad 0)), (1, .int a1), (4, .int x84), (5, .int x85), (6, .int x120)]) hx hb d_R_row_218 hl (k := 3) rfl (by rw [e_x128]; rfl) (by decide) rfl (fun ls hl => ?_)
                refine lv_goto (tgt := 35) hx hb d_R_row_221 (by decide) ?_
                exact ih1 _ _ _ _ _ _ hk hw (lv_sub hl [2, 3, 1, 0] rfl)
              refine lv_if_le (tgt := 207) hx hb d_R_row_199 (by decide) (fun hc => ?_) (fun hc => ?_)
              · have hk := hk.1 hc
                refine lv_iconst (v := 0) hx hb d_R_row_207 (by decide) ?_
                exact hj3 _ _ _ _ hk hw (lv_sub hl [0, 1, 2, 3, 4, 5, 6] rfl)
              · have hk := hk.2 hc
                refine lv_iload hx hb d_R_row_202 (lv_at hl 6 rfl) ?_
                refine lv_goto (tgt := 208) hx hb d_R_row_204 (by decide) ?_
                exact hj3 _ _ _ _ hk hw (lv_sub hl [0, 1, 2, 3, 4, 5, 6] rfl)
            refine lv_if_lt (tgt := 186) hx hb d_R_row_73 (by decide) (fun hc => ?_) (fun hc => ?_)
            · have hk := hk.1 hc
              exact hj2 _ _ _ _ hk hw (lv_sub hl [3, 4, 5, 6, 2, 1, 0] rfl)
            · have hk := hk.2 hc
              refine lv_aload_n hx hb d_R_row_76 rfl (lv_at hl 3 rfl) ?_
              refine g_R_sprites hC hw q_3 d_R_row_77 ?_
              refine lv_iload hx hb d_R_row_80 (lv_at hl 1 rfl) ?_
              refine lv_iconst (v := 3) hx hb d_R_row_82 (by decide) ?_
              refine lv_iadd hx hb d_R_row_83 ?_
              obtain ⟨hin, hk⟩ := hk
              refine r_ld_5 hC hw hin rfl d_R_row_84 ?_
              refine lv_sipush (v := 128) hx hb d_R_row_85 (by decide) ?_
              refine lv_iand hx hb d_R_row_88 ?_
              have hj4 : ∀ (H : Heap) (locs : List Loc) (ls : Array Slot), wp_R_row_j4 a1 x81 x82 M83 x85 (wp_R_row_l1 a1 Q n1) Q → Wd D (ceR ad cA) A s H locs M83 → lv_has ls 9 [(0, .ref (ad 0)), (1, .int a1), (2, .int x81), (3, .int x82), (4, .int x84), (5, .int x85), (6, .int x86)] → W p l e rm_R_row s m args below meth c H locs 0 0 QQ (F0 m 97 ls []) := by
                intro H locs ls  hk hw hl
                unfold wp_R_row_j4 at hk
                refine lv_aload_n hx hb d_R_row_97 rfl (lv_at hl 0 rfl) ?_
                refine g_R_lcdc hC hw q_28 d_R_row_98 ?_
                refine lv_iconst (v := 4) hx hb d_R_row_101 (by decide) ?_
                refine lv_iand hx hb d_R_row_102 ?_
                have hj5 : ∀ (H : Heap) (locs : List Loc) (ls : Array Slot) (x147 : Int32), wp_R_row_j5 a1 x81 x82 M83 x85 (wp_R_row_l1 a1 Q n1) x147 Q → Wd D (ceR ad cA) A s H locs M83 → lv_has ls 9 [(0, .ref (ad 0)), (1, .int a1), (2, .int x81), (3, .int x82), (4, .int x84), (5, .int x85), (6, .int x86)] → W p l e rm_R_row s m args below meth c H locs 0 0 QQ (F0 m 113 ls [.int x147]) := by
                  intro H locs ls x147 hk hw hl
                  unfold wp_R_row_j5 at hk
                  refine lv_istore (lv' := [(7, .int x147), (0, .ref (ad 0)), (1, .int a1), (2, .int x81), (3, .int x82), (4, .int x84), (5, .int x85), (6, .int x86)]) hx hb d_R_row_113 hl (by decide) rfl (fun ls hl => ?_)
                  refine lv_aload_n hx hb d_R_row_115 rfl (lv_at hl 1 rfl) ?_
                  refine lv_iload hx hb d_R_row_116 (lv_at hl 6 rfl) ?_
                  refine lv_iload_n hx hb d_R_row_118 rfl (lv_at hl 2 rfl) ?_
                  refine lv_aload_n hx hb d_R_row_119 rfl (lv_at hl 1 rfl) ?_
                  refine g_R_sprites hC hw q_3 d_R_row_120 ?_
                  refine lv_iload hx hb d_R_row_123 (lv_at hl 6 rfl) ?_
                  obtain ⟨hin, hk⟩ := hk
                  refine r_ld_5 hC hw hin rfl d_R_row_125 ?_
                  refine lv_bipush (v := 16) hx hb d_R_row_126 (by decide) ?_
                  refine lv_isub hx hb d_R_row_128 ?_
                  refine lv_isub hx hb d_R_row_129 ?_
                  refine lv_iload_n hx hb d_R_row_130 rfl (lv_at hl 4 rfl) ?_
                  refine lv_aload_n hx hb d_R_row_131 rfl (lv_at hl 1 rfl) ?_
                  refine g_R_sprites hC hw q_3 d_R_row_132 ?_
                  refine lv_iload hx hb d_R_row_135 (lv_at hl 6 rfl) ?_
                  refine lv_iconst (v := 1) hx hb d_R_row_137 (by decide) ?_
                  refine lv_iadd hx hb d_R_row_138 ?_
                  obtain ⟨hin, hk⟩ := hk
                  refine r_ld_5 hC hw hin rfl d_R_row_139 ?_
                  refine lv_bipush (v := 8) hx hb d_R_row_140 (by decide) ?_
                  refine lv_isub hx hb d_R_row_142 ?_
                  refine lv_isub hx hb d_R_row_143 ?_
                  refine lv_iload hx hb d_R_row_144 (lv_at hl 0 rfl) ?_
                  refine cl_Vip (j := 0) (As := [.int x85, .int (a1 - ((M83 5 x85.toNatClampNeg) - (16 : Int32))), .int (x82 - ((M83 5 ((x85 + (1 : Int32))).toNatClampNeg) - (8 : Int32))), .int x147]) hC hw (ct_R_number _ _ _ _ _ _ hk) q_109 mw_R_number rfl ⟨rfl, rfl, Nat.le_of_ble_eq_true rfl, Nat.le_of_ble_eq_true rfl⟩ rfl rfl rfl hl.1 rfl (Nat.le_of_ble_eq_true rfl) d_R_row_146 (fun H locs x148 hk hw => ?_)
                  refine lv_istore (lv' := [(8, .int x148), (7, .int x147), (0, .ref (ad 0)), (1, .int a1), (2, .int x81), (3, .int x82), (4, .int x84), (5, .int x85), (6, .int x86)]) hx hb d_R_row_149 hl (by decide) rfl (fun ls hl => ?_)
                  refine lv_aload_n hx hb d_R_row_151 rfl (lv_at hl 2 rfl) ?_
                  refine g_R_sprites hC hw q_3 d_R_row_152 ?_
                  refine lv_iload hx hb d_R_row_155 (lv_at hl 7 rfl) ?_
                  refine lv_iconst (v := 3) hx hb d_R_row_157 (by decide) ?_
                  refine lv_iadd hx hb d_R_row_158 ?_
                  obtain ⟨hin, hk⟩ := hk
                  refine r_ld_5 hC hw hin rfl d_R_row_159 ?_
                  refine lv_bipush (v := 16) hx hb d_R_row_160 (by decide) ?_
                  refine lv_iand hx hb d_R_row_162 ?_
                  have hj6 : ∀ (H : Heap) (locs : List Loc) (ls : Array Slot) (x151 : Int32), wp_R_row_j6 x81 x82 M83 x148 (wp_R_row_l1 a1 Q n1) x151 Q → Wd D (ceR ad cA) A s H locs M83 → lv_has ls 9 [(0, .ref (ad 0)), (1, .int a1), (2, .int x81), (3, .int x82), (4, .int x84), (5, .int x85), (6, .int x86), (7, .int x147), (8, .int x148)] → W p l e rm_R_row s m args below meth c H locs 0 0 QQ (F0 m 177 ls [.int x151]) := by
                    intro H locs ls x151 hk hw hl
                    unfold wp_R_row_j6 at hk
                    refine lv_iconst (v := 2) hx hb d_R_row_177 (by decide) ?_
                    refine lv_iload hx hb d_R_row_178 (lv_at hl 8 rfl) ?_
                    refine lv_imul hx hb d_R_row_180 ?_
                    refine lv_ishr hx hb d_R_row_181 ?_
                    refine lv_iconst (v := 3) hx hb d_R_row_182 (by decide) ?_
                    refine lv_iand hx hb d_R_row_183 ?_
                    refine lv_topi (fun x152 e_x152 => ?_)
                    have hk := hk x152 e_x152
                    refine lv_istore (lv' := [(6, .int x152), (0, .ref (ad 0)), (1, .int a1), (2, .int x81), (3, .int x82), (4, .int x84), (5, .int x85), (7, .int x147), (8, .int x148)]) hx hb d_R_row_184 hl (by decide) rfl (fun ls hl => ?_)
                    exact hj2 _ _ _ _ hk hw (lv_sub hl [1, 2, 3, 4, 5, 6, 0] rfl)
                  refine lv_if_le (tgt := 173) hx hb d_R_row_163 (by decide) (fun hc => ?_) (fun hc => ?_)
                  · have hk := hk.1 hc
                    refine lv_aload_n hx hb d_R_row_173 rfl (lv_at hl 2 rfl) ?_
                    refine g_R_obp0 hC hw q_36 d_R_row_174 ?_
                    exact hj6 _ _ _ _ hk hw (lv_sub hl [2, 3, 4, 5, 6, 7, 8, 1, 0] rfl)
                  · have hk := hk.2 hc
                    refine lv_aload_n hx hb d_R_row_166 rfl (lv_at hl 2 rfl) ?_
                    refine g_R_obp1 hC hw q_37 d_R_row_167 ?_
                    refine lv_goto (tgt := 177) hx hb d_R_row_170 (by decide) ?_
                    exact hj6 _ _ _ _ hk hw (lv_sub hl [2, 3, 4, 5, 6, 7, 8, 1, 0] rfl)
                refine lv_if_le (tgt := 111) hx hb d_R_row_103 (by decide) (fun hc => ?_) (fun hc => ?_)
                · have hk := hk.1 hc
                  refine lv_bipush (v := 8) hx hb d_R_row_111 (by decide) ?_
                  exact hj5 _ _ _ _ hk hw (lv_sub hl [0, 1, 2, 3, 4, 5, 6] rfl)
                · have hk := hk.2 hc
                  refine lv_bipush (v := 16) hx hb d_R_row_106 (by decide) ?_
                  refine lv_goto (tgt := 113) hx hb d_R_row_108 (by decide) ?_
                  exact hj5 _ _ _ _ hk hw (lv_sub hl [0, 1, 2, 3, 4, 5, 6] rfl)
              refine lv_if_eq (tgt := 97) hx hb d_R_row_89 (by decide) (fun hc => ?_) (fun hc => ?_)
              · have hk := hk.1 hc
                exact hj4 _ _ _  hk hw (lv_sub hl [3, 4, 5, 6, 2, 1, 0] rfl)
              · have hk := hk.2 hc
                refine lv_iload hx hb d_R_row_92 (lv_at hl 2 rfl) ?_
                refine lv_if_ne (tgt := 186) hx hb d_R_row_94 (by decide) (fun hc => ?_) (fun hc => ?_)
                · have hk := hk.1 hc
                  exact hj2 _ _ _ _ hk hw (lv_sub hl [3, 4, 5, 6, 2, 1, 0] rfl)
                · have hk := hk.2 hc
                  exact hj4 _ _ _  hk hw (lv_sub hl [3, 4, 5, 6, 2, 1, 0] rfl)
      obtain ⟨n, hk⟩ := hk
      exact hl1 n _ _ _ _ _ _ hk hw (lv_sub hl [2, 3, 1, 0] rfl)
    · have hk := hk.2 hc
      refine lv_iconst (v := 0) hx hb d_R_row_29 (by decide) ?_
      exact rt_i hQQ hx hb hr hlk hw ⟨_, rfl, hk⟩ d_R_row_30
  refine lv_if_ne (tgt := 21) hx hb d_R_row_14 (by decide) (fun hc => ?_) (fun hc => ?_)
  · have hk := hk.1 hc
    refine lv_iconst (v := 0) hx hb d_R_row_21 (by decide) ?_
    exact hj1 _ _ _ _ hk hw (lv_sub hl [0, 1] rfl)
  · have hk := hk.2 hc
    refine lv_iconst (v := 1) hx hb d_R_row_17 (by decide) ?_
    refine lv_goto (tgt := 22) hx hb d_R_row_18 (by decide) ?_
    exact hj1 _ _ _ _ hk hw (lv_sub hl [0, 1] rfl)
set_option maxHeartbeats 4000000 in
set_option maxRecDepth 100000 in
theorem ct_R_pixel {l : Launch} {D : va_G} {cA : ClassId} {ad tb : Nat → Nat} (M0 : Mem) (a1 : Int32) (Q : Int32 → Mem → Prop) (hk : wp_R_pixel M0 a1 Q) : Ct l y_R_pixel ws_R_pixel rm_R_pixel D (ceR ad cA) cA tb [.ref (ad 0), .int a1] M0 (QI Q) := by
  refine Ct.of (own := "TileConsoleModel") (cc := b_R_pixel) (maxL := 2) (ret := (some .int)) ceR_fix (by decide) rfl rfl (Nat.le_of_ble_eq_true rfl) ?_
  intro p e s m args below meth c A QQ ls H locs hQQ hC hr hlk hw hl
  have hx := hC.1.1
  have hb := hC.1.2.1
  unfold wp_R_pixel at hk
  have hl : lv_has ls 2 [(0, .ref (ad 0)), (1, .int a1)] := hl
  refine lv_aload_n hx hb d_R_pixel_0 rfl (lv_at hl 0 rfl) ?_
  refine lv_iconst (v := 0) hx hb d_R_pixel_1 (by decide) ?_
  refine p_R_err hC hw q_46 d_R_pixel_2 (fun H locs M1 e_M1 hw => ?_)
  have hk := hk M1 e_M1
  refine lv_aload_n hx hb d_R_pixel_5 rfl (lv_at hl 0 rfl) ?_
  refine lv_iload_n hx hb d_R_pixel_6 rfl (lv_at hl 1 rfl) ?_
  refine lv_iconst (v := 0) hx hb d_R_pixel_7 (by decide) ?_
  refine lv_sipush (v := 159) hx hb d_R_pixel_8 (by decide) ?_
  refine cl_Sip (As := [.int a1, .int (0 : Int32), .int (159 : Int32)]) hC hw (ct_R_in _ _ _ _ _ hk) q_97 mw_R_in rfl ⟨rfl, rfl, Nat.le_of_ble_eq_true rfl, Nat.le_of_ble_eq_true rfl⟩ rfl hl.1 rfl (Nat.le_of_ble_eq_true rfl) d_R_pixel_11 (fun H locs x2 hk hw => ?_)
  have hj1 : ∀ (H : Heap) (locs : List Loc) (ls : Array Slot) (x8 : Int32), wp_R_pixel_j1 a1 M1 x8 Q → Wd D (ceR ad cA) A s H locs M1 → lv_has ls 2 [(0, .ref (ad 0)), (1, .int a1)] → W p l e rm_R_pixel s m args below meth c H locs 0 0 QQ (F0 m 22 ls [.int x8, .ref (ad 0)]) := by
    intro H locs ls x8 hk hw hl
    unfold wp_R_pixel_j1 at hk
    refine lv_iconst (v := 1) hx hb d_R_pixel_22 (by decide) ?_
    refine cl_Vi (j := 0) (As := [.int x8, .int (1 : Int32)]) hC hw (ct_R_fails _ _ _ _ hk) q_98 mw_R_fails rfl ⟨rfl, rfl, Nat.le_of_ble_eq_true rfl, Nat.le_of_ble_eq_true rfl⟩ rfl rfl rfl hl.1 rfl (Nat.le_of_ble_eq_true rfl) d_R_pixel_23 (fun H locs x9 M10 hk hw => ?_)
    have hj2 : ∀ (H : Heap) (locs : List Loc) (ls : Array Slot) (x12 : Int32), wp_R_pixel_j2 M10 x12 Q → Wd D (ceR ad cA) A s H locs M10 → lv_has ls 2 [(0, .ref (ad 0)), (1, .int a1)] → W p l e rm_R_pixel s m args below meth c H locs 0 0 QQ (F0 m 39 ls [.int x12]) := by
      intro H locs ls x12 hk hw hl
      unfold wp_R_pixel_j2 at hk
      exact rt_i hQQ hx hb hr hlk hw ⟨_, rfl, hk⟩ d_R_pixel_39
    refine lv_if_eq (tgt := 33) hx hb d_R_pixel_26 (by decide) (fun hc => ?_) (fun hc => ?_)
    · have hk := hk.1 hc
      refine lv_aload_n hx hb d_R_pixel_33 rfl (lv_at hl 0 rfl) ?_
      refine g_R_line hC hw q_5 d_R_pixel_34 ?_
      refine lv_iload_n hx hb d_R_pixel_37 rfl (lv_at hl 1 rfl) ?_
      obtain ⟨hin, hk⟩ := hk
      refine r_ld_7 hC hw hin rfl d_R_pixel_38 ?_
      exact hj2 _ _ _ _ hk hw (lv_sub hl [0, 1] rfl)
    · have hk := hk.2 hc
      refine lv_iconst (v := 0) hx hb d_R_pixel_29 (by decide) ?_
      refine lv_goto (tgt := 39) hx hb d_R_pixel_30 (by decide) ?_
      exact hj2 _ _ _ _ hk hw (lv_sub hl [0, 1] rfl)
  refine lv_if_ne (tgt := 21) hx hb d_R_pixel_14 (by decide) (fun hc => ?_) (fun hc => ?_)
  · have hk := hk.1 hc
    refine lv_iconst (v := 0) hx hb d_R_pixel_21 (by decide) ?_
    exact hj1 _ _ _ _ hk hw (lv_sub hl [0, 1] rfl)
  · have hk := hk.2 hc
    refine lv_iconst (v := 1) hx hb d_R_pixel_17 (by decide) ?_
    refine lv_goto (tgt := 22) hx hb d_R_pixel_18 (by decide) ?_
    exact hj1 _ _ _ _ hk hw (lv_sub hl [0, 1] rfl)
set_option maxHeartbeats 4000000 in
set_option maxRecDepth 100000 in
theorem ct_R_count {l : Launch} {D : va_G} {cA : ClassId} {ad tb : Nat → Nat} (M0 : Mem) (a1 : Int32) (Q : Int32 → Mem → Prop) (hk : wp_R_count M0 a1 Q) : Ct l y_R_count ws_R_count rm_R_count D (ceR ad cA) cA tb [.ref (ad 0), .int a1] M0 (QI Q) := by
  refine Ct.of (own := "TileConsoleModel") (cc := b_R_count) (maxL := 2) (ret := (some .int)) ceR_fix (by decide) rfl rfl (Nat.le_of_ble_eq_true rfl) ?_
  intro p e s m args below meth c A QQ ls H locs hQQ hC hr hlk hw hl
  have hx := hC.1.1
  have hb := hC.1.2.1
  unfold wp_R_count at hk
  have hl : lv_has ls 2 [(0, .ref (ad 0)), (1, .int a1)] := hl
  refine lv_aload_n hx hb d_R_count_0 rfl (lv_at hl 0 rfl) ?_
  refine lv_iconst (v := 0) hx hb d_R_count_1 (by decide) ?_
  refine p_R_err hC hw q_46 d_R_count_2 (fun H locs M1 e_M1 hw => ?_)
  have hk := hk M1 e_M1
  refine lv_aload_n hx hb d_R_count_5 rfl (lv_at hl 0 rfl) ?_
  refine lv_iload_n hx hb d_R_count_6 rfl (lv_at hl 1 rfl) ?_
  refine lv_iconst (v := 0) hx hb d_R_count_7 (by decide) ?_
  refine lv_bipush (v := 8) hx hb d_R_count_8 (by decide) ?_
  refine cl_Sip (As := [.int a1, .int (0 : Int32), .int (8 : Int32)]) hC hw (ct_R_in _ _ _ _ _ hk) q_97 mw_R_in rfl ⟨rfl, rfl, Nat.le_of_ble_eq_true rfl, Nat.le_of_ble_eq_true rfl⟩ rfl hl.1 rfl (Nat.le_of_ble_eq_true rfl) d_R_count_10 (fun H locs x2 hk hw => ?_)
  have hj1 : ∀ (H : Heap) (locs : List Loc) (ls : Array Slot) (x23 : Int32), wp_R_count_j1 a1 M1 x23 Q → Wd D (ceR ad cA) A s H locs M1 → lv_has ls 2 [(0, .ref (ad 0)), (1, .int a1)] → W p l e rm_R_count s m args below meth c H locs 0 0 QQ (F0 m 21 ls [.int x23, .ref (ad 0)]) := by
    intro H locs ls x23 hk hw hl
    unfold wp_R_count_j1 at hk
    refine lv_iconst (v := 1) hx hb d_R_count_21 (by decide) ?_
    refine cl_Vi (j := 0) (As := [.int x23, .int (1 : Int32)]) hC hw (ct_R_fails _ _ _ _ hk) q_98 mw_R_fails rfl ⟨rfl, rfl, Nat.le_of_ble_eq_true rfl, Nat.le_of_ble_eq_true rfl⟩ rfl rfl rfl hl.1 rfl (Nat.le_of_ble_eq_true rfl) d_R_count_22 (fun H locs x24 M25 hk hw => ?_)
    refine lv_if_eq (tgt := 30) hx hb d_R_count_25 (by decide) (fun hc => ?_) (fun hc => ?_)
    · have hk := hk.1 hc
      refine lv_iload_n hx hb d_R_count_30 rfl (lv_at hl 1 rfl) ?_
      by_cases hs9 : (a1 = (0 : Int32))
      · have hk := hk.1 hs9
        refine lv_tableIn (x := a1) (off := 45) (tgt := 76) hx hb d_R_count_31 (by rw [hs9]; decide) (by rw [hs9]; decide) (by rw [hs9]; decide) (by decide) ?_
        refine lv_aload_n hx hb d_R_count_76 rfl (lv_at hl 0 rfl) ?_
        refine g_R_cycles hC hw q_42 d_R_count_77 ?_
        exact rt_i hQQ hx hb hr hlk hw ⟨_, rfl, hk⟩ d_R_count_80
      · have hk := hk.2 hs9
        by_cases hs10 : (a1 = (1 : Int32))
        · have hk := hk.1 hs10
          refine lv_tableIn (x := a1) (off := 50) (tgt := 81) hx hb d_R_count_31 (by rw [hs10]; decide) (by rw [hs10]; decide) (by rw [hs10]; decide) (by decide) ?_
          refine lv_aload_n hx hb d_R_count_81 rfl (lv_at hl 0 rfl) ?_
          refine g_R_instructions hC hw q_43 d_R_count_82 ?_
          exact rt_i hQQ hx hb hr hlk hw ⟨_, rfl, hk⟩ d_R_count_85
        · have hk := hk.2 hs10
          by_cases hs11 : (a1 = (2 : Int32))
          · have hk := hk.1 hs11
            refine lv_tableIn (x := a1) (off := 55) (tgt := 86) hx hb d_R_count_31 (by rw [hs11]; decide) (by rw [hs11]; decide) (by rw [hs11]; decide) (by decide) ?_
            refine lv_aload_n hx hb d_R_count_86 rfl (lv_at hl 0 rfl) ?_
            refine g_R_ime hC hw q_17 d_R_count_87 ?_
            have hj2 : ∀ (H : Heap) (locs : List Loc) (ls : Array Slot) (x27 : Int32), wp_R_count_j2 M25 x27 Q → Wd D (ceR ad cA) A s H locs M25 → lv_has ls 2 [(0, .ref (ad 0)), (1, .int a1)] → W p l e rm_R_count s m args below meth c H locs 0 0 QQ (F0 m 98 ls [.int x27]) := by
              intro H locs ls x27 hk hw hl
              unfold wp_R_count_j2 at hk
              exact rt_i hQQ hx hb hr hlk hw ⟨_, rfl, hk⟩ d_R_count_98
            refine lv_if_eq (tgt := 97) hx hb d_R_count_90 (by decide) (fun hc => ?_) (fun hc => ?_)
            · have hk := hk.1 hc
              refine lv_iconst (v := 0) hx hb d_R_count_97 (by decide) ?_
              exact hj2 _ _ _ _ hk hw (lv_sub hl [0, 1] rfl)
            · have hk := hk.2 hc
              refine lv_iconst (v := 1) hx hb d_R_count_93 (by decide) ?_
              refine lv_goto (tgt := 98) hx hb d_R_count_94 (by decide) ?_
              exact hj2 _ _ _ _ hk hw (lv_sub hl [0, 1] rfl)
          · have hk := hk.2 hs11
            by_cases hs12 : (a1 = (3 : Int32))
            · have hk := hk.1 hs12
              refine lv_tableIn (x := a1) (off := 68) (tgt := 99) hx hb d_R_count_31 (by rw [hs12]; decide) (by rw [hs12]; decide) (by rw [hs12]; decide) (by decide) ?_
              refine lv_aload_n hx hb d_R_count_99 rfl (lv_at hl 0 rfl) ?_
              refine g_R_halts hC hw q_18 d_R_count_100 ?_
              have hj3 : ∀ (H : Heap) (locs : List Loc) (ls : Array Slot) (x29 : Int32), wp_R_count_j3 M25 x29 Q → Wd D (ceR ad cA) A s H locs M25 → lv_has ls 2 [(0, .ref (ad 0)), (1, .int a1)] → W p l e rm_R_count s m args below meth c H locs 0 0 QQ (F0 m 111 ls [.int x29]) := by
                intro H locs ls x29 hk hw hl
                unfold wp_R_count_j3 at hk
                exact rt_i hQQ hx hb hr hlk hw ⟨_, rfl, hk⟩ d_R_count_111
              refine lv_if_eq (tgt := 110) hx hb d_R_count_103 (by decide) (fun hc => ?_) (fun hc => ?_)
              · have hk := hk.1 hc
                refine lv_iconst (v := 0) hx hb d_R_count_110 (by decide) ?_
                exact hj3 _ _ _ _ hk hw (lv_sub hl [0, 1] rfl)
              · have hk := hk.2 hc
                refine lv_iconst (v := 1) hx hb d_R_count_106 (by decide) ?_
                refine lv_goto (tgt := 111) hx hb d_R_count_107 (by decide) ?_
                exact hj3 _ _ _ _ hk hw (lv_sub hl [0, 1] rfl)
            · have hk := hk.2 hs12
              by_cases hs13 : (a1 = (4 : Int32))
              · have hk := hk.1 hs13
                refine lv_tableIn (x := a1) (off := 81) (tgt := 112) hx hb d_R_count_31 (by rw [hs13]; decide) (by rw [hs13]; decide) (by rw [hs13]; decide) (by decide) ?_
                refine lv_aload_n hx hb d_R_count_112 rfl (lv_at hl 0 rfl) ?_
                refine g_R_locked hC hw q_19 d_R_count_113 ?_
                have hj4 : ∀ (H : Heap) (locs : List Loc) (ls : Array Slot) (x31 : Int32), wp_R_count_j4 M25 x31 Q → Wd D (ceR ad cA) A s H locs M25 → lv_has ls 2 [(0, .ref (ad 0)), (1, .int a1)] → W p l e rm_R_count s m args below meth c H locs 0 0 QQ (F0 m 124 ls [.int x31]) := by
                  intro H locs ls x31 hk hw hl
                  unfold wp_R_count_j4 at hk
                  exact rt_i hQQ hx hb hr hlk hw ⟨_, rfl, hk⟩ d_R_count_124
                refine lv_if_eq (tgt := 123) hx hb d_R_count_116 (by decide) (fun hc => ?_) (fun hc => ?_)
                · have hk := hk.1 hc
                  refine lv_iconst (v := 0) hx hb d_R_count_123 (by decide) ?_
                  exact hj4 _ _ _ _ hk hw (lv_sub hl [0, 1] rfl)
                · have hk := hk.2 hc
                  refine lv_iconst (v := 1) hx hb d_R_count_119 (by decide) ?_
                  refine lv_goto (tgt := 124) hx hb d_R_count_120 (by decide) ?_
                  exact hj4 _ _ _ _ hk hw (lv_sub hl [0, 1] rfl)
              · have hk := hk.2 hs13
                by_cases hs14 : (a1 = (5 : Int32))
                · have hk := hk.1 hs14
                  refine lv_tableIn (x := a1) (off := 94) (tgt := 125) hx hb d_R_count_31 (by rw [hs14]; decide) (by rw [hs14]; decide) (by rw [hs14]; decide) (by decide) ?_
                  refine lv_aload_n hx hb d_R_count_125 rfl (lv_at hl 0 rfl) ?_
                  refine g_R_isIn hC hw q_47 d_R_count_126 ?_
                  have hj5 : ∀ (H : Heap) (locs : List Loc) (ls : Array Slot) (x34 : Int32), wp_R_count_j5 M25 x34 Q → Wd D (ceR ad cA) A s H locs M25 → lv_has ls 2 [(0, .ref (ad 0)), (1, .int a1)] → W p l e rm_R_count s m args below meth c H locs 0 0 QQ (F0 m 140 ls [.int x34]) := by
                    intro H locs ls x34 hk hw hl
                    unfold wp_R_count_j5 at hk
                    exact rt_i hQQ hx hb hr hlk hw ⟨_, rfl, hk⟩ d_R_count_140
                  refine lv_if_eq (tgt := 139) hx hb d_R_count_129 (by decide) (fun hc => ?_) (fun hc => ?_)
                  · have hk := hk.1 hc
                    refine lv_iconst (v := 0) hx hb d_R_count_139 (by decide) ?_
                    exact hj5 _ _ _ _ hk hw (lv_sub hl [0, 1] rfl)
                  · have hk := hk.2 hc
                    refine lv_aload_n hx hb d_R_count_132 rfl (lv_at hl 0 rfl) ?_
                    refine cl_Vip (j := 0) (As := []) hC hw (ct_R_bankHigh _  _ hk) q_65 mw_R_bankHigh rfl ⟨rfl, rfl, Nat.le_of_ble_eq_true rfl, Nat.le_of_ble_eq_true rfl⟩ rfl rfl rfl hl.1 rfl (Nat.le_of_ble_eq_true rfl) d_R_count_133 (fun H locs x35 hk hw => ?_)
                    refine lv_goto (tgt := 140) hx hb d_R_count_136 (by decide) ?_
                    exact hj5 _ _ _ _ hk hw (lv_sub hl [0, 1] rfl)
                · have hk := hk.2 hs14
                  by_cases hs15 : (a1 = (6 : Int32))
                  · have hk := hk.1 hs15
                    refine lv_tableIn (x := a1) (off := 110) (tgt := 141) hx hb d_R_count_31 (by rw [hs15]; decide) (by rw [hs15]; decide) (by rw [hs15]; decide) (by decide) ?_
                    refine lv_aload_n hx hb d_R_count_141 rfl (lv_at hl 0 rfl) ?_
                    refine g_R_isIn hC hw q_47 d_R_count_142 ?_
                    have hj6 : ∀ (H : Heap) (locs : List Loc) (ls : Array Slot) (x38 : Int32), wp_R_count_j6 M25 x38 Q → Wd D (ceR ad cA) A s H locs M25 → lv_has ls 2 [(0, .ref (ad 0)), (1, .int a1)] → W p l e rm_R_count s m args below meth c H locs 0 0 QQ (F0 m 156 ls [.int x38]) := by
                      intro H locs ls x38 hk hw hl
                      unfold wp_R_count_j6 at hk
                      exact rt_i hQQ hx hb hr hlk hw ⟨_, rfl, hk⟩ d_R_count_156
                    refine lv_if_eq (tgt := 155) hx hb d_R_count_145 (by decide) (fun hc => ?_) (fun hc => ?_)
                    · have hk := hk.1 hc
                      refine lv_iconst (v := 0) hx hb d_R_count_155 (by decide) ?_
                      exact hj6 _ _ _ _ hk hw (lv_sub hl [0, 1] rfl)
                    · have hk := hk.2 hc
                      refine lv_aload_n hx hb d_R_count_148 rfl (lv_at hl 0 rfl) ?_
                      refine cl_Vip (j := 0) (As := []) hC hw (ct_R_bankRam _  _ hk) q_63 mw_R_bankRam rfl ⟨rfl, rfl, Nat.le_of_ble_eq_true rfl, Nat.le_of_ble_eq_true rfl⟩ rfl rfl rfl hl.1 rfl (Nat.le_of_ble_eq_true rfl) d_R_count_149 (fun H locs x39 hk hw => ?_)
                      refine lv_goto (tgt := 156) hx hb d_R_count_152 (by decide) ?_
                      exact hj6 _ _ _ _ hk hw (lv_sub hl [0, 1] rfl)
                  · have hk := hk.2 hs15
                    by_cases hs16 : (a1 = (7 : Int32))
                    · have hk := hk.1 hs16
                      refine lv_tableIn (x := a1) (off := 126) (tgt := 157) hx hb d_R_count_31 (by rw [hs16]; decide) (by rw [hs16]; decide) (by rw [hs16]; decide) (by decide) ?_
                      refine lv_aload_n hx hb d_R_count_157 rfl (lv_at hl 0 rfl) ?_
                      refine cl_Vip (j := 0) (As := []) hC hw (ct_R_hasRam _  _ hk) q_61 mw_R_hasRam rfl ⟨rfl, rfl, Nat.le_of_ble_eq_true rfl, Nat.le_of_ble_eq_true rfl⟩ rfl rfl rfl hl.1 rfl (Nat.le_of_ble_eq_true rfl) d_R_count_158 (fun H locs x40 hk hw => ?_)
                      have hj7 : ∀ (H : Heap) (locs : List Loc) (ls : Array Slot) (x42 : Int32), wp_R_count_j7 M25 x42 Q → Wd D (ceR ad cA) A s H locs M25 → lv_has ls 2 [(0, .ref (ad 0)), (1, .int a1)] → W p l e rm_R_count s m args below meth c H locs 0 0 QQ (F0 m 169 ls [.int x42]) := by
                        intro H locs ls x42 hk hw hl
                        unfold wp_R_count_j7 at hk
                        exact rt_i hQQ hx hb hr hlk hw ⟨_, rfl, hk⟩ d_R_count_169
                      refine lv_if_eq (tgt := 168) hx hb d_R_count_161 (by decide) (fun hc => ?_) (fun hc => ?_)
                      · have hk := hk.1 hc
                        refine lv_iconst (v := 0) hx hb d_R_count_168 (by decide) ?_
                        exact hj7 _ _ _ _ hk hw (lv_sub hl [0, 1] rfl)
                      · have hk := hk.2 hc
                        refine lv_iconst (v := 1) hx hb d_R_count_164 (by decide) ?_
                        refine lv_goto (tgt := 169) hx hb d_R_count_165 (by decide) ?_
                        exact hj7 _ _ _ _ hk hw (lv_sub hl [0, 1] rfl)
                    · have hk := hk.2 hs16
                      refine lv_tableOut (x := a1) (tgt := 170) hx hb d_R_count_31 (by have hz := (⟨lv_neT hs9 (show ((0 : Int32)).toInt = 0 by decide), lv_neT hs10 (show ((1 : Int32)).toInt = 1 by decide), lv_neT hs11 (show ((2 : Int32)).toInt = 2 by decide), lv_neT hs12 (show ((3 : Int32)).toInt = 3 by decide), lv_neT hs13 (show ((4 : Int32)).toInt = 4 by decide), lv_neT hs14 (show ((5 : Int32)).toInt = 5 by decide), lv_neT hs15 (show ((6 : Int32)).toInt = 6 by decide), lv_neT hs16 (show ((7 : Int32)).toInt = 7 by decide)⟩ : ¬ (a1).toInt = 0 ∧ ¬ (a1).toInt = 1 ∧ ¬ (a1).toInt = 2 ∧ ¬ (a1).toInt = 3 ∧ ¬ (a1).toInt = 4 ∧ ¬ (a1).toInt = 5 ∧ ¬ (a1).toInt = 6 ∧ ¬ (a1).toInt = 7); omega) (by decide) ?_
                      refine lv_aload_n hx hb d_R_count_170 rfl (lv_at hl 0 rfl) ?_
                      refine g_R_interrupts hC hw q_44 d_R_count_171 ?_
                      exact rt_i hQQ hx hb hr hlk hw ⟨_, rfl, hk⟩ d_R_count_174
    · have hk := hk.2 hc
      refine lv_iconst (v := 0) hx hb d_R_count_28 (by decide) ?_
      exact rt_i hQQ hx hb hr hlk hw ⟨_, rfl, hk⟩ d_R_count_29
  refine lv_if_ne (tgt := 20) hx hb d_R_count_13 (by decide) (fun hc => ?_) (fun hc => ?_)
  · have hk := hk.1 hc
    refine lv_iconst (v := 0) hx hb d_R_count_20 (by decide) ?_
    exact hj1 _ _ _ _ hk hw (lv_sub hl [0, 1] rfl)
  · have hk := hk.2 hc
    refine lv_iconst (v := 1) hx hb d_R_count_16 (by decide) ?_
    refine lv_goto (tgt := 21) hx hb d_R_count_17 (by decide) ?_
    exact hj1 _ _ _ _ hk hw (lv_sub hl [0, 1] rfl)
set_option maxHeartbeats 4000000 in
set_option maxRecDepth 100000 in
theorem ct_R_speed {l : Launch} {D : va_G} {cA : ClassId} {ad tb : Nat → Nat} (M0 : Mem) (Q : UInt64 → Mem → Prop) (hk : wp_R_speed M0 Q) : Ct l y_R_speed ws_R_speed rm_R_speed D (ceR ad cA) cA tb [.ref (ad 0)] M0 (QD Q) := by
  refine Ct.of (own := "TileConsoleModel") (cc := b_R_speed) (maxL := 1) (ret := (some .double)) ceR_fix (by decide) rfl rfl (Nat.le_of_ble_eq_true rfl) ?_
  intro p e s m args below meth c A QQ ls H locs hQQ hC hr hlk hw hl
  have hx := hC.1.1
  have hb := hC.1.2.1
  unfold wp_R_speed at hk
  have hl : lv_has ls 1 [(0, .ref (ad 0))] := hl
  refine lv_aload_n hx hb d_R_speed_0 rfl (lv_at hl 0 rfl) ?_
  refine lv_iconst (v := 0) hx hb d_R_speed_1 (by decide) ?_
  refine p_R_err hC hw q_46 d_R_speed_2 (fun H locs M1 e_M1 hw => ?_)
  have hk := hk M1 e_M1
  refine lv_aload_n hx hb d_R_speed_5 rfl (lv_at hl 0 rfl) ?_
  refine lv_aload_n hx hb d_R_speed_6 rfl (lv_at hl 0 rfl) ?_
  refine g_R_cycles hC hw q_42 d_R_speed_7 ?_
  have hj1 : ∀ (H : Heap) (locs : List Loc) (ls : Array Slot) (x5 : Int32), wp_R_speed_j1 M1 x5 Q → Wd D (ceR ad cA) A s H locs M1 → lv_has ls 1 [(0, .ref (ad 0))] → W p l e rm_R_speed s m args below meth c H locs 0 0 QQ (F0 m 18 ls [.int x5, .ref (ad 0)]) := by
    intro H locs ls x5 hk hw hl
    unfold wp_R_speed_j1 at hk
    refine lv_iconst (v := 1) hx hb d_R_speed_18 (by decide) ?_
    refine cl_Vi (j := 0) (As := [.int x5, .int (1 : Int32)]) hC hw (ct_R_fails _ _ _ _ hk) q_98 mw_R_fails rfl ⟨rfl, rfl, Nat.le_of_ble_eq_true rfl, Nat.le_of_ble_eq_true rfl⟩ rfl rfl rfl hl.1 rfl (Nat.le_of_ble_eq_true rfl) d_R_speed_19 (fun H locs x6 M7 hk hw => ?_)
    refine lv_if_eq (tgt := 27) hx hb d_R_speed_22 (by decide) (fun hc => ?_) (fun hc => ?_)
    · have hk := hk.1 hc
      refine lv_ldc2d (v := (4697254411347427328 : UInt64)) hx hb hC.1.2.2.2.1 (hC.1.2.2.2.2 _ q_112) d_R_speed_27 ?_
      refine lv_aload_n hx hb d_R_speed_30 rfl (lv_at hl 0 rfl) ?_
      refine g_R_cycles hC hw q_42 d_R_speed_31 ?_
      refine lv_i2d hx hb d_R_speed_34 ?_
      obtain ⟨hn, hk⟩ := hk
      refine lv_ddiv hx hb d_R_speed_35 hn ?_
      refine lv_aload_n hx hb d_R_speed_36 rfl (lv_at hl 0 rfl) ?_
      refine g_R_frames hC hw q_45 d_R_speed_37 ?_
      refine lv_i2d hx hb d_R_speed_40 ?_
      obtain ⟨hn, hk⟩ := hk
      refine lv_dmul hx hb d_R_speed_41 hn ?_
      exact rt_d hQQ hx hb hr hlk hw ⟨_, rfl, hk⟩ d_R_speed_42
    · have hk := hk.2 hc
      refine lv_dconst0 hx hb d_R_speed_25 ?_
      exact rt_d hQQ hx hb hr hlk hw ⟨_, rfl, hk⟩ d_R_speed_26
  refine lv_if_ne (tgt := 17) hx hb d_R_speed_10 (by decide) (fun hc => ?_) (fun hc => ?_)
  · have hk := hk.1 hc
    refine lv_iconst (v := 0) hx hb d_R_speed_17 (by decide) ?_
    exact hj1 _ _ _ _ hk hw (lv_sub hl [0] rfl)
  · have hk := hk.2 hc
    refine lv_iconst (v := 1) hx hb d_R_speed_13 (by decide) ?_
    refine lv_goto (tgt := 18) hx hb d_R_speed_14 (by decide) ?_
    exact hj1 _ _ _ _ hk hw (lv_sub hl [0] rfl)
