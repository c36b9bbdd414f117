set_option maxHeartbeats 4000000 in
set_option maxRecDepth 100000 in
theorem ct_R_rom {l : Launch} {D : va_G} {cA : ClassId} {ad tb : Nat → Nat} (M0 : Mem) (a1 : Int32) (a2 : Int32) (a3 : Int32) (a4 : Int64) (Q : Int32 → Mem → Prop) (hk : wp_R_rom M0 a1 a2 a3 a4 Q) : Ct l y_R_rom ws_R_rom rm_R_rom D (ceR ad cA) cA tb [.ref (ad 0), .int a1, .int a2, .int a3, .long a4] M0 (QI Q) := by
  refine Ct.of (own := "TileConsoleModel") (cc := b_R_rom) (maxL := 7) (ret := (some .int)) ceR_fix (by decide) rfl rfl (Nat.le_of_ble_eq_true rfl) ?_
  intro p e s m args below meth c A QQ ls H locs hQQ hC hr hlk hw hl
  have hx := hC.1.1
  have hb := hC.1.2.1
  unfold wp_R_rom at hk
  have hl : lv_has ls 7 [(0, .ref (ad 0)), (1, .int a1), (2, .int a2), (3, .int a3), (4, .long a4)] := hl
  refine lv_aload_n hx hb d_R_rom_0 rfl (lv_at hl 0 rfl) ?_
  refine lv_iconst (v := 0) hx hb d_R_rom_1 (by decide) ?_
  refine p_R_err hC hw q_46 d_R_rom_2 (fun H locs M1 e_M1 hw => ?_)
  have hk := hk M1 e_M1
  refine lv_aload_n hx hb d_R_rom_5 rfl (lv_at hl 0 rfl) ?_
  refine lv_iload_n hx hb d_R_rom_6 rfl (lv_at hl 3 rfl) ?_
  refine lv_iconst (v := 1) hx hb d_R_rom_7 (by decide) ?_
  refine lv_bipush (v := 8) hx hb d_R_rom_8 (by decide) ?_
  refine cl_Sip (As := [.int a3, .int (1 : Int32), .int (8 : Int32)]) hC hw (ct_R_in _ _ _ _ _ hk) q_97 mw_R_in rfl ⟨rfl, rfl, Nat.le_of_ble_eq_true rfl, Nat.le_of_ble_eq_true rfl⟩ rfl hl.1 rfl (Nat.le_of_ble_eq_true rfl) d_R_rom_10 (fun H locs x2 hk hw => ?_)
  have hj1 : ∀ (H : Heap) (locs : List Loc) (ls : Array Slot) (x39 : Int32), wp_R_rom_j1 a1 a2 a3 a4 M1 x39 Q → Wd D (ceR ad cA) A s H locs M1 → lv_has ls 7 [(0, .ref (ad 0)), (1, .int a1), (2, .int a2), (3, .int a3), (4, .long a4)] → W p l e rm_R_rom s m args below meth c H locs 0 0 QQ (F0 m 31 ls [.int x39, .ref (ad 0)]) := by
    intro H locs ls x39 hk hw hl
    unfold wp_R_rom_j1 at hk
    refine lv_iconst (v := 1) hx hb d_R_rom_31 (by decide) ?_
    refine cl_Vi (j := 0) (As := [.int x39, .int (1 : Int32)]) hC hw (ct_R_fails _ _ _ _ hk) q_98 mw_R_fails rfl ⟨rfl, rfl, Nat.le_of_ble_eq_true rfl, Nat.le_of_ble_eq_true rfl⟩ rfl rfl rfl hl.1 rfl (Nat.le_of_ble_eq_true rfl) d_R_rom_32 (fun H locs x40 M41 hk hw => ?_)
    have hj2 : ∀ (H : Heap) (locs : List Loc) (ls : Array Slot) (M58 : Mem), wp_R_rom_j2 M58 Q → Wd D (ceR ad cA) A s H locs M58 → lv_has ls 7 [(0, .ref (ad 0)), (1, .int a1), (2, .int a2), (3, .int a3), (4, .long a4)] → W p l e rm_R_rom s m args below meth c H locs 0 0 QQ (F0 m 64 ls []) := by
      intro H locs ls M58 hk hw hl
      unfold wp_R_rom_j2 at hk
      refine lv_iconst (v := 0) hx hb d_R_rom_64 (by decide) ?_
      exact rt_i hQQ hx hb hr hlk hw ⟨_, rfl, hk⟩ d_R_rom_65
    refine lv_if_ne (tgt := 64) hx hb d_R_rom_35 (by decide) (fun hc => ?_) (fun hc => ?_)
    · have hk := hk.1 hc
      exact hj2 _ _ _ _ hk hw (lv_sub hl [0, 1, 2, 3, 4] rfl)
    · have hk := hk.2 hc
      refine lv_aload_n hx hb d_R_rom_38 rfl (lv_at hl 0 rfl) ?_
      refine lv_iload_n hx hb d_R_rom_39 rfl (lv_at hl 2 rfl) ?_
      refine lv_iconst (v := 0) hx hb d_R_rom_40 (by decide) ?_
      refine lv_sipush (v := 1024) hx hb d_R_rom_41 (by decide) ?_
      refine lv_iload_n hx hb d_R_rom_44 rfl (lv_at hl 3 rfl) ?_
      refine lv_isub hx hb d_R_rom_45 ?_
      refine cl_Sip (As := [.int a2, .int (0 : Int32), .int ((1024 : Int32) - a3)]) hC hw (ct_R_in _ _ _ _ _ hk) q_97 mw_R_in rfl ⟨rfl, rfl, Nat.le_of_ble_eq_true rfl, Nat.le_of_ble_eq_true rfl⟩ rfl hl.1 rfl (Nat.le_of_ble_eq_true rfl) d_R_rom_46 (fun H locs x59 hk hw => ?_)
      have hj3 : ∀ (H : Heap) (locs : List Loc) (ls : Array Slot) (x67 : Int32), wp_R_rom_j3 a1 a2 a3 a4 M41 x67 Q → Wd D (ceR ad cA) A s H locs M41 → lv_has ls 7 [(0, .ref (ad 0)), (1, .int a1), (2, .int a2), (3, .int a3), (4, .long a4)] → W p l e rm_R_rom s m args below meth c H locs 0 0 QQ (F0 m 57 ls [.int x67, .ref (ad 0)]) := by
        intro H locs ls x67 hk hw hl
        unfold wp_R_rom_j3 at hk
        refine lv_iconst (v := 2) hx hb d_R_rom_57 (by decide) ?_
        refine cl_Vi (j := 0) (As := [.int x67, .int (2 : Int32)]) hC hw (ct_R_fails _ _ _ _ hk) q_98 mw_R_fails rfl ⟨rfl, rfl, Nat.le_of_ble_eq_true rfl, Nat.le_of_ble_eq_true rfl⟩ rfl rfl rfl hl.1 rfl (Nat.le_of_ble_eq_true rfl) d_R_rom_58 (fun H locs x68 M69 hk hw => ?_)
        refine lv_if_eq (tgt := 66) hx hb d_R_rom_61 (by decide) (fun hc => ?_) (fun hc => ?_)
        · have hk := hk.1 hc
          refine lv_iconst (v := 0) hx hb d_R_rom_66 (by decide) ?_
          refine lv_istore (lv' := [(6, .int (0 : Int32)), (0, .ref (ad 0)), (1, .int a1), (2, .int a2), (3, .int a3), (4, .long a4)]) hx hb d_R_rom_67 hl (by decide) rfl (fun ls hl => ?_)
          have hl1 : ∀ (n : Nat) (H : Heap) (locs : List Loc) (ls : Array Slot) (x70 : Int32) (M71 : Mem), wp_R_rom_l1 a1 a2 a3 a4 Q n x70 M71 → Wd D (ceR ad cA) A s H locs M71 → lv_has ls 7 [(0, .ref (ad 0)), (1, .int a1), (2, .int a2), (3, .int a3), (4, .long a4), (6, .int x70)] → W p l e rm_R_rom s m args below meth c H locs 0 0 QQ (F0 m 69 ls []) := by
            intro n
            induction n with
            | zero => intro H locs ls x70 M71 hk; exact False.elim hk
            | succ n1 ih1 =>
              intro H locs ls x70 M71 hk hw hl
              refine lv_iload hx hb d_R_rom_69 (lv_at hl 5 rfl) ?_
              refine lv_iload_n hx hb d_R_rom_71 rfl (lv_at hl 3 rfl) ?_
              refine lv_icmp_ge (tgt := 109) hx hb d_R_rom_72 (by decide) (fun hc => ?_) (fun hc => ?_)
              · have hk := hk.1 hc
                refine lv_iload_n hx hb d_R_rom_109 rfl (lv_at hl 3 rfl) ?_
                exact rt_i hQQ hx hb hr hlk hw ⟨_, rfl, hk⟩ d_R_rom_110
              · have hk := hk.2 hc
                refine lv_aload_n hx hb d_R_rom_75 rfl (lv_at hl 0 rfl) ?_
                refine g_R_rom hC hw q_64 d_R_rom_76 ?_
                refine lv_sipush (v := 1024) hx hb d_R_rom_79 (by decide) ?_
                refine lv_iload_n hx hb d_R_rom_82 rfl (lv_at hl 1 rfl) ?_
                refine lv_imul hx hb d_R_rom_83 ?_
                refine lv_iload_n hx hb d_R_rom_84 rfl (lv_at hl 2 rfl) ?_
                refine lv_iadd hx hb d_R_rom_85 ?_
                refine lv_iload hx hb d_R_rom_86 (lv_at hl 5 rfl) ?_
                refine lv_iadd hx hb d_R_rom_88 ?_
                refine lv_lload hx hb d_R_rom_89 (lv_at hl 4 rfl) ?_
                refine lv_bipush (v := 8) hx hb d_R_rom_91 (by decide) ?_
                refine lv_iload hx hb d_R_rom_93 (lv_at hl 5 rfl) ?_
                refine lv_imul hx hb d_R_rom_95 ?_
                refine lv_lushr hx hb d_R_rom_96 rfl ?_
                refine lv_ldc2 (v := (255 : Int64)) hx hb hC.1.2.2.2.1 (hC.1.2.2.2.2 _ q_99) d_R_rom_97 ?_
                refine lv_land hx hb d_R_rom_100 ?_
                refine lv_l2i hx hb d_R_rom_101 rfl ?_
                obtain ⟨hin, hk⟩ := hk
                refine r_st_1 hC hw hin rfl d_R_rom_102 (fun H locs M72 e_M72 hw => ?_)
                have hk := hk M72 e_M72
                obtain ⟨x73, e_x73⟩ : ∃ y : Int32, y = x70 + (1 : Int32) := ⟨_, rfl⟩
                have hk := hk x73 e_x73
                refine lv_iinc (v := x73) (lv' := [(6, .int x73), (0, .ref (ad 0)), (1, .int a1), (2, .int a2), (3, .int a3), (4, .long a4)]) hx hb d_R_rom_103 hl (k := 5) rfl (by rw [e_x73]; rfl) (by decide) rfl (fun ls hl => ?_)
                refine lv_goto (tgt := 69) hx hb d_R_rom_106 (by decide) ?_
                exact ih1 _ _ _ _ _ hk hw (lv_sub hl [1, 2, 3, 4, 5, 0] rfl)
          obtain ⟨n, hk⟩ := hk
          exact hl1 n _ _ _ _ _ hk hw (lv_sub hl [1, 2, 3, 4, 5, 0] rfl)
        · have hk := hk.2 hc
          exact hj2 _ _ _ _ hk hw (lv_sub hl [0, 1, 2, 3, 4] rfl)
      refine lv_if_ne (tgt := 56) hx hb d_R_rom_49 (by decide) (fun hc => ?_) (fun hc => ?_)
      · have hk := hk.1 hc
        refine lv_iconst (v := 0) hx hb d_R_rom_56 (by decide) ?_
        exact hj3 _ _ _ _ hk hw (lv_sub hl [0, 1, 2, 3, 4] rfl)
      · have hk := hk.2 hc
        refine lv_iconst (v := 1) hx hb d_R_rom_52 (by decide) ?_
        refine lv_goto (tgt := 57) hx hb d_R_rom_53 (by decide) ?_
        exact hj3 _ _ _ _ hk hw (lv_sub hl [0, 1, 2, 3, 4] rfl)
  have hj4 : ∀ (H : Heap) (locs : List Loc) (ls : Array Slot), wp_R_rom_j4 a1 a2 a3 a4 M1 Q → Wd D (ceR ad cA) A s H locs M1 → lv_has ls 7 [(0, .ref (ad 0)), (1, .int a1), (2, .int a2), (3, .int a3), (4, .long a4)] → W p l e rm_R_rom s m args below meth c H locs 0 0 QQ (F0 m 26 ls [.ref (ad 0)]) := by
    intro H locs ls  hk hw hl
    unfold wp_R_rom_j4 at hk
    refine lv_iconst (v := 1) hx hb d_R_rom_26 (by decide) ?_
    refine lv_goto (tgt := 31) hx hb d_R_rom_27 (by decide) ?_
    exact hj1 _ _ _ _ hk hw (lv_sub hl [0, 1, 2, 3, 4] rfl)
  refine lv_if_eq (tgt := 26) hx hb d_R_rom_13 (by decide) (fun hc => ?_) (fun hc => ?_)
  · have hk := hk.1 hc
    exact hj4 _ _ _  hk hw (lv_sub hl [0, 1, 2, 3, 4] rfl)
  · have hk := hk.2 hc
    refine lv_iload_n hx hb d_R_rom_16 rfl (lv_at hl 1 rfl) ?_
    refine lv_iconst (v := 0) hx hb d_R_rom_17 (by decide) ?_
    refine lv_bipush (v := 7) hx hb d_R_rom_18 (by decide) ?_
    refine cl_Sip (As := [.int a1, .int (0 : Int32), .int (7 : Int32)]) hC hw (ct_R_in _ _ _ _ _ hk) q_97 mw_R_in rfl ⟨rfl, rfl, Nat.le_of_ble_eq_true rfl, Nat.le_of_ble_eq_true rfl⟩ rfl hl.1 rfl (Nat.le_of_ble_eq_true rfl) d_R_rom_20 (fun H locs x74 hk hw => ?_)
    refine lv_if_ne (tgt := 30) hx hb d_R_rom_23 (by decide) (fun hc => ?_) (fun hc => ?_)
    · have hk := hk.1 hc
      refine lv_iconst (v := 0) hx hb d_R_rom_30 (by decide) ?_
      exact hj1 _ _ _ _ hk hw (lv_sub hl [0, 1, 2, 3, 4] rfl)
    · have hk := hk.2 hc
      exact hj4 _ _ _  hk hw (lv_sub hl [0, 1, 2, 3, 4] rfl)
set_option maxHeartbeats 4000000 in
set_option maxRecDepth 100000 in
theorem ct_R_insert {l : Launch} {D : va_G} {cA : ClassId} {ad tb : Nat → Nat} (M0 : Mem) (a1 : Int32) (Q : Int32 → Mem → Prop) (hk : wp_R_insert M0 a1 Q) : Ct l y_R_insert ws_R_insert rm_R_insert D (ceR ad cA) cA tb [.ref (ad 0), .int a1] M0 (QI Q) := by
  refine Ct.of (own := "TileConsoleModel") (cc := b_R_insert) (maxL := 4) (ret := (some .int)) ceR_fix (by decide) rfl rfl (Nat.le_of_ble_eq_true rfl) ?_
  intro p e s m args below meth c A QQ ls H locs hQQ hC hr hlk hw hl
  have hx := hC.1.1
  have hb := hC.1.2.1
  unfold wp_R_insert at hk
  have hl : lv_has ls 4 [(0, .ref (ad 0)), (1, .int a1)] := hl
  refine lv_aload_n hx hb d_R_insert_0 rfl (lv_at hl 0 rfl) ?_
  refine lv_iconst (v := 0) hx hb d_R_insert_1 (by decide) ?_
  refine p_R_err hC hw q_46 d_R_insert_2 (fun H locs M1 e_M1 hw => ?_)
  have hk := hk M1 e_M1
  refine lv_iconst (v := 0) hx hb d_R_insert_5 (by decide) ?_
  refine lv_istore_n (lv' := [(2, .int (0 : Int32)), (0, .ref (ad 0)), (1, .int a1)]) hx hb d_R_insert_6 rfl hl (by decide) rfl (fun ls hl => ?_)
  refine lv_sipush (v := 308) hx hb d_R_insert_7 (by decide) ?_
  refine lv_istore_n (lv' := [(3, .int (308 : Int32)), (2, .int (0 : Int32)), (0, .ref (ad 0)), (1, .int a1)]) hx hb d_R_insert_10 rfl hl (by decide) rfl (fun ls hl => ?_)
  have hl1 : ∀ (n : Nat) (H : Heap) (locs : List Loc) (ls : Array Slot) (x2 : Int32) (x3 : Int32), wp_R_insert_l1 a1 M1 Q n x2 x3 → Wd D (ceR ad cA) A s H locs M1 → lv_has ls 4 [(0, .ref (ad 0)), (1, .int a1), (2, .int x2), (3, .int x3)] → W p l e rm_R_insert s m args below meth c H locs 0 0 QQ (F0 m 11 ls []) := by
    intro n
    induction n with
    | zero => intro H locs ls x2 x3 hk; exact False.elim hk
    | succ n1 ih1 =>
      intro H locs ls x2 x3 hk hw hl
      refine lv_iload_n hx hb d_R_insert_11 rfl (lv_at hl 3 rfl) ?_
      refine lv_sipush (v := 333) hx hb d_R_insert_12 (by decide) ?_
      refine lv_icmp_ge (tgt := 35) hx hb d_R_insert_15 (by decide) (fun hc => ?_) (fun hc => ?_)
      · have hk := hk.1 hc
        refine lv_aload_n hx hb d_R_insert_35 rfl (lv_at hl 0 rfl) ?_
        refine lv_iload_n hx hb d_R_insert_36 rfl (lv_at hl 1 rfl) ?_
        refine lv_iconst (v := 0) hx hb d_R_insert_37 (by decide) ?_
        refine lv_iconst (v := 3) hx hb d_R_insert_38 (by decide) ?_
        refine cl_Sip (As := [.int a1, .int (0 : Int32), .int (3 : Int32)]) hC hw (ct_R_in _ _ _ _ _ hk) q_97 mw_R_in rfl ⟨rfl, rfl, Nat.le_of_ble_eq_true rfl, Nat.le_of_ble_eq_true rfl⟩ rfl hl.1 rfl (Nat.le_of_ble_eq_true rfl) d_R_insert_39 (fun H locs x4 hk hw => ?_)
        have hj1 : ∀ (H : Heap) (locs : List Loc) (ls : Array Slot) (x34 : Int32), wp_R_insert_j1 a1 M1 x2 x34 Q → Wd D (ceR ad cA) A s H locs M1 → lv_has ls 4 [(0, .ref (ad 0)), (1, .int a1), (2, .int x2), (3, .int x3)] → W p l e rm_R_insert s m args below meth c H locs 0 0 QQ (F0 m 50 ls [.int x34, .ref (ad 0)]) := by
          intro H locs ls x34 hk hw hl
          unfold wp_R_insert_j1 at hk
          refine lv_iconst (v := 1) hx hb d_R_insert_50 (by decide) ?_
          refine cl_Vi (j := 0) (As := [.int x34, .int (1 : Int32)]) hC hw (ct_R_fails _ _ _ _ hk) q_98 mw_R_fails rfl ⟨rfl, rfl, Nat.le_of_ble_eq_true rfl, Nat.le_of_ble_eq_true rfl⟩ rfl rfl rfl hl.1 rfl (Nat.le_of_ble_eq_true rfl) d_R_insert_51 (fun H locs x35 M36 hk hw => ?_)
          have hj2 : ∀ (H : Heap) (locs : List Loc) (ls : Array Slot) (M50 : Mem), wp_R_insert_j2 M50 Q → Wd D (ceR ad cA) A s H locs M50 → lv_has ls 4 [(0, .ref (ad 0)), (1, .int a1), (2, .int x2), (3, .int x3)] → W p l e rm_R_insert s m args below meth c H locs 0 0 QQ (F0 m 86 ls []) := by
            intro H locs ls M50 hk hw hl
            unfold wp_R_insert_j2 at hk
            refine lv_iconst (v := 0) hx hb d_R_insert_86 (by decide) ?_
            exact rt_i hQQ hx hb hr hlk hw ⟨_, rfl, hk⟩ d_R_insert_87
          refine lv_if_ne (tgt := 86) hx hb d_R_insert_54 (by decide) (fun hc => ?_) (fun hc => ?_)
          · have hk := hk.1 hc
            exact hj2 _ _ _ _ hk hw (lv_sub hl [0, 1, 2, 3] rfl)
          · have hk := hk.2 hc
            refine lv_aload_n hx hb d_R_insert_57 rfl (lv_at hl 0 rfl) ?_
            refine lv_iload_n hx hb d_R_insert_58 rfl (lv_at hl 2 rfl) ?_
            refine lv_sipush (v := 255) hx hb d_R_insert_59 (by decide) ?_
            refine lv_iand hx hb d_R_insert_62 ?_
            refine lv_aload_n hx hb d_R_insert_63 rfl (lv_at hl 0 rfl) ?_
            refine g_R_rom hC hw q_64 d_R_insert_64 ?_
            refine lv_sipush (v := 333) hx hb d_R_insert_67 (by decide) ?_
            refine r_ld_1 (k := 333) hC hw (vin_lit rfl) (by decide) d_R_insert_70 ?_
            have hj3 : ∀ (H : Heap) (locs : List Loc) (ls : Array Slot) (x57 : Int32), wp_R_insert_j3 a1 M36 x57 Q → Wd D (ceR ad cA) A s H locs M36 → lv_has ls 4 [(0, .ref (ad 0)), (1, .int a1), (2, .int x2), (3, .int x3)] → W p l e rm_R_insert s m args below meth c H locs 0 0 QQ (F0 m 79 ls [.int x57, .ref (ad 0)]) := by
              intro H locs ls x57 hk hw hl
              unfold wp_R_insert_j3 at hk
              refine lv_iconst (v := 2) hx hb d_R_insert_79 (by decide) ?_
              refine cl_Vi (j := 0) (As := [.int x57, .int (2 : Int32)]) hC hw (ct_R_fails _ _ _ _ hk) q_98 mw_R_fails rfl ⟨rfl, rfl, Nat.le_of_ble_eq_true rfl, Nat.le_of_ble_eq_true rfl⟩ rfl rfl rfl hl.1 rfl (Nat.le_of_ble_eq_true rfl) d_R_insert_80 (fun H locs x58 M59 hk hw => ?_)
              refine lv_if_eq (tgt := 88) hx hb d_R_insert_83 (by decide) (fun hc => ?_) (fun hc => ?_)
              · have hk := hk.1 hc
                refine lv_aload_n hx hb d_R_insert_88 rfl (lv_at hl 0 rfl) ?_
                refine lv_iconst (v := 1) hx hb d_R_insert_89 (by decide) ?_
                refine p_R_isIn hC hw (Or.inr rfl) q_47 d_R_insert_90 (fun H locs M60 e_M60 hw => ?_)
                have hk := hk M60 e_M60
                refine lv_aload_n hx hb d_R_insert_93 rfl (lv_at hl 0 rfl) ?_
                refine lv_iload_n hx hb d_R_insert_94 rfl (lv_at hl 1 rfl) ?_
                refine p_R_kind hC hw q_48 d_R_insert_95 (fun H locs M61 e_M61 hw => ?_)
                have hk := hk M61 e_M61
                refine lv_aload_n hx hb d_R_insert_98 rfl (lv_at hl 0 rfl) ?_
                refine cl_Vv (j := 0) (As := []) hC hw (ct_R_reset _  _ hk) q_100 mw_R_reset rfl ⟨rfl, rfl, Nat.le_of_ble_eq_true rfl, Nat.le_of_ble_eq_true rfl⟩ rfl rfl rfl hl.1 rfl (Nat.le_of_ble_eq_true rfl) d_R_insert_99 (fun H locs M62 hk hw => ?_)
                refine lv_iconst (v := 1) hx hb d_R_insert_102 (by decide) ?_
                exact rt_i hQQ hx hb hr hlk hw ⟨_, rfl, hk⟩ d_R_insert_103
              · have hk := hk.2 hc
                exact hj2 _ _ _ _ hk hw (lv_sub hl [0, 1, 2, 3] rfl)
            refine lv_icmp_eq (tgt := 78) hx hb d_R_insert_71 (by decide) (fun hc => ?_) (fun hc => ?_)
            · have hk := hk.1 hc
              refine lv_iconst (v := 0) hx hb d_R_insert_78 (by decide) ?_
              exact hj3 _ _ _ _ hk hw (lv_sub hl [0, 1, 2, 3] rfl)
            · have hk := hk.2 hc
              refine lv_iconst (v := 1) hx hb d_R_insert_74 (by decide) ?_
              refine lv_goto (tgt := 79) hx hb d_R_insert_75 (by decide) ?_
              exact hj3 _ _ _ _ hk hw (lv_sub hl [0, 1, 2, 3] rfl)
        refine lv_if_ne (tgt := 49) hx hb d_R_insert_42 (by decide) (fun hc => ?_) (fun hc => ?_)
        · have hk := hk.1 hc
          refine lv_iconst (v := 0) hx hb d_R_insert_49 (by decide) ?_
          exact hj1 _ _ _ _ hk hw (lv_sub hl [0, 1, 2, 3] rfl)
        · have hk := hk.2 hc
          refine lv_iconst (v := 1) hx hb d_R_insert_45 (by decide) ?_
          refine lv_goto (tgt := 50) hx hb d_R_insert_46 (by decide) ?_
          exact hj1 _ _ _ _ hk hw (lv_sub hl [0, 1, 2, 3] rfl)
      · have hk := hk.2 hc
        refine lv_iload_n hx hb d_R_insert_18 rfl (lv_at hl 2 rfl) ?_
        refine lv_aload_n hx hb d_R_insert_19 rfl (lv_at hl 0 rfl) ?_
        refine g_R_rom hC hw q_64 d_R_insert_20 ?_
        refine lv_iload_n hx hb d_R_insert_23 rfl (lv_at hl 3 rfl) ?_
        obtain ⟨hin, hk⟩ := hk
        refine r_ld_1 hC hw hin rfl d_R_insert_24 ?_
        refine lv_isub hx hb d_R_insert_25 ?_
        refine lv_iconst (v := 1) hx hb d_R_insert_26 (by decide) ?_
        refine lv_isub hx hb d_R_insert_27 ?_
        refine lv_topi (fun x63 e_x63 => ?_)
        have hk := hk x63 e_x63
        refine lv_istore_n (lv' := [(2, .int x63), (0, .ref (ad 0)), (1, .int a1), (3, .int x3)]) hx hb d_R_insert_28 rfl hl (by decide) rfl (fun ls hl => ?_)
        obtain ⟨x64, e_x64⟩ : ∃ y : Int32, y = x3 + (1 : Int32) := ⟨_, rfl⟩
        have hk := hk x64 e_x64
        refine lv_iinc (v := x64) (lv' := [(3, .int x64), (2, .int x63), (0, .ref (ad 0)), (1, .int a1)]) hx hb d_R_insert_29 hl (k := 3) rfl (by rw [e_x64]; rfl) (by decide) rfl (fun ls hl => ?_)
        refine lv_goto (tgt := 11) hx hb d_R_insert_32 (by decide) ?_
        exact ih1 _ _ _ _ _ hk hw (lv_sub hl [2, 3, 1, 0] rfl)
  obtain ⟨n, hk⟩ := hk
  exact hl1 n _ _ _ _ _ hk hw (lv_sub hl [2, 3, 1, 0] rfl)
set_option maxHeartbeats 4000000 in
set_option maxRecDepth 100000 in
theorem ct_R_run {l : Launch} {D : va_G} {cA : ClassId} {ad tb : Nat → Nat} (M0 : Mem) (a1 : Int32) (Q : Int32 → Mem → Prop) (hk : wp_R_run M0 a1 Q) : Ct l y_R_run ws_R_run rm_R_run D (ceR ad cA) cA tb [.ref (ad 0), .int a1] M0 (QI Q) := by
  refine Ct.of (own := "TileConsoleModel") (cc := b_R_run) (maxL := 6) (ret := (some .int)) ceR_fix (by decide) rfl rfl (Nat.le_of_ble_eq_true rfl) ?_
  intro p e s m args below meth c A QQ ls H locs hQQ hC hr hlk hw hl
  have hx := hC.1.1
  have hb := hC.1.2.1
  unfold wp_R_run at hk
  have hl : lv_has ls 6 [(0, .ref (ad 0)), (1, .int a1)] := hl
  refine lv_aload_n hx hb d_R_run_0 rfl (lv_at hl 0 rfl) ?_
  refine lv_iconst (v := 0) hx hb d_R_run_1 (by decide) ?_
  refine p_R_err hC hw q_46 d_R_run_2 (fun H locs M1 e_M1 hw => ?_)
  have hk := hk M1 e_M1
  refine lv_aload_n hx hb d_R_run_5 rfl (lv_at hl 0 rfl) ?_
  refine lv_iload_n hx hb d_R_run_6 rfl (lv_at hl 1 rfl) ?_
  refine lv_iconst (v := 1) hx hb d_R_run_7 (by decide) ?_
  refine lv_bipush (v := 100) hx hb d_R_run_8 (by decide) ?_
  refine cl_Sip (As := [.int a1, .int (1 : Int32), .int (100 : Int32)]) hC hw (ct_R_in _ _ _ _ _ hk) q_97 mw_R_in rfl ⟨rfl, rfl, Nat.le_of_ble_eq_true rfl, Nat.le_of_ble_eq_true rfl⟩ rfl hl.1 rfl (Nat.le_of_ble_eq_true rfl) d_R_run_10 (fun H locs x2 hk hw => ?_)
  have hj1 : ∀ (H : Heap) (locs : List Loc) (ls : Array Slot) (x120 : Int32), wp_R_run_j1 a1 M1 x120 Q → Wd D (ceR ad cA) A s H locs M1 → lv_has ls 6 [(0, .ref (ad 0)), (1, .int a1)] → W p l e rm_R_run s m args below meth c H locs 0 0 QQ (F0 m 21 ls [.int x120, .ref (ad 0)]) := by
    intro H locs ls x120 hk hw hl
    unfold wp_R_run_j1 at hk
    refine lv_iconst (v := 1) hx hb d_R_run_21 (by decide) ?_
    refine cl_Vi (j := 0) (As := [.int x120, .int (1 : Int32)]) hC hw (ct_R_fails _ _ _ _ hk) q_98 mw_R_fails rfl ⟨rfl, rfl, Nat.le_of_ble_eq_true rfl, Nat.le_of_ble_eq_true rfl⟩ rfl rfl rfl hl.1 rfl (Nat.le_of_ble_eq_true rfl) d_R_run_22 (fun H locs x121 M122 hk hw => ?_)
    have hj2 : ∀ (H : Heap) (locs : List Loc) (ls : Array Slot) (M180 : Mem), wp_R_run_j2 M180 Q → Wd D (ceR ad cA) A s H locs M180 → lv_has ls 6 [(0, .ref (ad 0)), (1, .int a1)] → W p l e rm_R_run s m args below meth c H locs 0 0 QQ (F0 m 60 ls []) := by
      intro H locs ls M180 hk hw hl
      unfold wp_R_run_j2 at hk
      refine lv_iconst (v := 0) hx hb d_R_run_60 (by decide) ?_
      exact rt_i hQQ hx hb hr hlk hw ⟨_, rfl, hk⟩ d_R_run_61
    refine lv_if_ne (tgt := 60) hx hb d_R_run_25 (by decide) (fun hc => ?_) (fun hc => ?_)
    · have hk := hk.1 hc
      exact hj2 _ _ _ _ hk hw (lv_sub hl [0, 1] rfl)
    · have hk := hk.2 hc
      refine lv_aload_n hx hb d_R_run_28 rfl (lv_at hl 0 rfl) ?_
      refine lv_aload_n hx hb d_R_run_29 rfl (lv_at hl 0 rfl) ?_
      refine g_R_isIn hC hw q_47 d_R_run_30 ?_
      have hj3 : ∀ (H : Heap) (locs : List Loc) (ls : Array Slot) (x209 : Int32), wp_R_run_j3 a1 M122 x209 Q → Wd D (ceR ad cA) A s H locs M122 → lv_has ls 6 [(0, .ref (ad 0)), (1, .int a1)] → W p l e rm_R_run s m args below meth c H locs 0 0 QQ (F0 m 41 ls [.int x209, .ref (ad 0)]) := by
        intro H locs ls x209 hk hw hl
        unfold wp_R_run_j3 at hk
        refine lv_iconst (v := 2) hx hb d_R_run_41 (by decide) ?_
        refine cl_Vi (j := 0) (As := [.int x209, .int (2 : Int32)]) hC hw (ct_R_fails _ _ _ _ hk) q_98 mw_R_fails rfl ⟨rfl, rfl, Nat.le_of_ble_eq_true rfl, Nat.le_of_ble_eq_true rfl⟩ rfl rfl rfl hl.1 rfl (Nat.le_of_ble_eq_true rfl) d_R_run_42 (fun H locs x210 M211 hk hw => ?_)
        refine lv_if_ne (tgt := 60) hx hb d_R_run_45 (by decide) (fun hc => ?_) (fun hc => ?_)
        · have hk := hk.1 hc
          exact hj2 _ _ _ _ hk hw (lv_sub hl [0, 1] rfl)
        · have hk := hk.2 hc
          refine lv_aload_n hx hb d_R_run_48 rfl (lv_at hl 0 rfl) ?_
          refine lv_aload_n hx hb d_R_run_49 rfl (lv_at hl 0 rfl) ?_
          refine g_R_locked hC hw q_19 d_R_run_50 ?_
          refine lv_iconst (v := 3) hx hb d_R_run_53 (by decide) ?_
          refine cl_Vi (j := 0) (As := [.int (M211 0 23), .int (3 : Int32)]) hC hw (ct_R_fails _ _ _ _ hk) q_98 mw_R_fails rfl ⟨rfl, rfl, Nat.le_of_ble_eq_true rfl, Nat.le_of_ble_eq_true rfl⟩ rfl rfl rfl hl.1 rfl (Nat.le_of_ble_eq_true rfl) d_R_run_54 (fun H locs x212 M213 hk hw => ?_)
          refine lv_if_eq (tgt := 62) hx hb d_R_run_57 (by decide) (fun hc => ?_) (fun hc => ?_)
          · have hk := hk.1 hc
            refine lv_iconst (v := 0) hx hb d_R_run_62 (by decide) ?_
            refine lv_istore_n (lv' := [(2, .int (0 : Int32)), (0, .ref (ad 0)), (1, .int a1)]) hx hb d_R_run_63 rfl hl (by decide) rfl (fun ls hl => ?_)
            refine lv_iconst (v := 0) hx hb d_R_run_64 (by decide) ?_
            refine lv_istore_n (lv' := [(3, .int (0 : Int32)), (2, .int (0 : Int32)), (0, .ref (ad 0)), (1, .int a1)]) hx hb d_R_run_65 rfl hl (by decide) rfl (fun ls hl => ?_)
            have hl1 : ∀ (n : Nat) (H : Heap) (locs : List Loc) (ls : Array Slot) (x214 : Int32) (x215 : Int32) (M216 : Mem), wp_R_run_l1 a1 Q n x214 x215 M216 → Wd D (ceR ad cA) A s H locs M216 → lv_has ls 6 [(0, .ref (ad 0)), (1, .int a1), (2, .int x214), (3, .int x215)] → W p l e rm_R_run s m args below meth c H locs 0 0 QQ (F0 m 66 ls []) := by
              intro n
              induction n with
              | zero => intro H locs ls x214 x215 M216 hk; exact False.elim hk
              | succ n1 ih1 =>
                intro H locs ls x214 x215 M216 hk hw hl
                refine lv_iload_n hx hb d_R_run_66 rfl (lv_at hl 3 rfl) ?_
                refine lv_iload_n hx hb d_R_run_67 rfl (lv_at hl 1 rfl) ?_
                refine lv_icmp_ge (tgt := 132) hx hb d_R_run_68 (by decide) (fun hc => ?_) (fun hc => ?_)
                · have hk := hk.1 hc
                  refine lv_iload_n hx hb d_R_run_132 rfl (lv_at hl 2 rfl) ?_
                  exact rt_i hQQ hx hb hr hlk hw ⟨_, rfl, hk⟩ d_R_run_133
                · have hk := hk.2 hc
                  refine lv_aload_n hx hb d_R_run_71 rfl (lv_at hl 0 rfl) ?_
                  refine cl_Vi (j := 0) (As := []) hC hw (ct_R_step _  _ hk) q_101 mw_R_step rfl ⟨rfl, rfl, Nat.le_of_ble_eq_true rfl, Nat.le_of_ble_eq_true rfl⟩ rfl rfl rfl hl.1 rfl (Nat.le_of_ble_eq_true rfl) d_R_run_72 (fun H locs x217 M218 hk hw => ?_)
                  refine lv_istore (lv' := [(4, .int x217), (0, .ref (ad 0)), (1, .int a1), (2, .int x214), (3, .int x215)]) hx hb d_R_run_75 hl (by decide) rfl (fun ls hl => ?_)
                  refine lv_aload_n hx hb d_R_run_77 rfl (lv_at hl 1 rfl) ?_
                  refine lv_iload hx hb d_R_run_78 (lv_at hl 0 rfl) ?_
                  have hj4 : ∀ (H : Heap) (locs : List Loc) (ls : Array Slot) (x228 : Int32), wp_R_run_j4 x214 x215 M218 (wp_R_run_l1 a1 Q n1) x228 Q → Wd D (ceR ad cA) A s H locs M218 → lv_has ls 6 [(0, .ref (ad 0)), (1, .int a1), (2, .int x214), (3, .int x215), (4, .int x217)] → W p l e rm_R_run s m args below meth c H locs 0 0 QQ (F0 m 88 ls [.int x228, .ref (ad 0)]) := by
                    intro H locs ls x228 hk hw hl
                    unfold wp_R_run_j4 at hk
                    refine lv_iconst (v := 3) hx hb d_R_run_88 (by decide) ?_
                    refine cl_Vi (j := 0) (As := [.int x228, .int (3 : Int32)]) hC hw (ct_R_fails _ _ _ _ hk) q_98 mw_R_fails rfl ⟨rfl, rfl, Nat.le_of_ble_eq_true rfl, Nat.le_of_ble_eq_true rfl⟩ rfl rfl rfl hl.1 rfl (Nat.le_of_ble_eq_true rfl) d_R_run_89 (fun H locs x229 M230 hk hw => ?_)
                    refine lv_if_eq (tgt := 97) hx hb d_R_run_92 (by decide) (fun hc => ?_) (fun hc => ?_)
                    · have hk := hk.1 hc
                      refine lv_iconst (v := 0) hx hb d_R_run_97 (by decide) ?_
                      refine lv_istore (lv' := [(5, .int (0 : Int32)), (0, .ref (ad 0)), (1, .int a1), (2, .int x214), (3, .int x215), (4, .int x217)]) hx hb d_R_run_98 hl (by decide) rfl (fun ls hl => ?_)
                      have hl2 : ∀ (n : Nat) (H : Heap) (locs : List Loc) (ls : Array Slot) (x231 : Int32) (M232 : Mem), wp_R_run_l2 x214 x215 (wp_R_run_l1 a1 Q n1) Q n x231 M232 → Wd D (ceR ad cA) A s H locs M232 → lv_has ls 6 [(0, .ref (ad 0)), (1, .int a1), (2, .int x214), (3, .int x215), (4, .int x217), (5, .int x231)] → W p l e rm_R_run s m args below meth c H locs 0 0 QQ (F0 m 100 ls []) := by
                        intro n
                        induction n with
                        | zero => intro H locs ls x231 M232 hk; exact False.elim hk
                        | succ n2 ih2 =>
                          intro H locs ls x231 M232 hk hw hl
                          refine lv_iload hx hb d_R_run_100 (lv_at hl 5 rfl) ?_
                          refine lv_aload_n hx hb d_R_run_102 rfl (lv_at hl 0 rfl) ?_
                          refine g_R_cost hC hw q_69 d_R_run_103 ?_
                          refine lv_icmp_ge (tgt := 119) hx hb d_R_run_106 (by decide) (fun hc => ?_) (fun hc => ?_)
                          · have hk := hk.1 hc
                            refine lv_iload_n hx hb d_R_run_119 rfl (lv_at hl 2 rfl) ?_
                            refine lv_aload_n hx hb d_R_run_120 rfl (lv_at hl 0 rfl) ?_
                            refine g_R_cost hC hw q_69 d_R_run_121 ?_
                            refine lv_iadd hx hb d_R_run_124 ?_
                            refine lv_topi (fun x233 e_x233 => ?_)
                            have hk := hk x233 e_x233
                            refine lv_istore_n (lv' := [(2, .int x233), (0, .ref (ad 0)), (1, .int a1), (3, .int x215), (4, .int x217), (5, .int x231)]) hx hb d_R_run_125 rfl hl (by decide) rfl (fun ls hl => ?_)
                            obtain ⟨x234, e_x234⟩ : ∃ y : Int32, y = x215 + (1 : Int32) := ⟨_, rfl⟩
                            have hk := hk x234 e_x234
                            refine lv_iinc (v := x234) (lv' := [(3, .int x234), (2, .int x233), (0, .ref (ad 0)), (1, .int a1), (4, .int x217), (5, .int x231)]) hx hb d_R_run_126 hl (k := 3) rfl (by rw [e_x234]; rfl) (by decide) rfl (fun ls hl => ?_)
                            refine lv_goto (tgt := 66) hx hb d_R_run_129 (by decide) ?_
                            exact ih1 _ _ _ _ _ _ hk hw (lv_sub hl [2, 3, 1, 0] rfl)
                          · have hk := hk.2 hc
                            refine lv_aload_n hx hb d_R_run_109 rfl (lv_at hl 0 rfl) ?_
                            refine cl_Vv (j := 0) (As := []) hC hw (ct_R_cycle _  _ hk) q_102 mw_R_cycle rfl ⟨rfl, rfl, Nat.le_of_ble_eq_true rfl, Nat.le_of_ble_eq_true rfl⟩ rfl rfl rfl hl.1 rfl (Nat.le_of_ble_eq_true rfl) d_R_run_110 (fun H locs M235 hk hw => ?_)
                            obtain ⟨x236, e_x236⟩ : ∃ y : Int32, y = x231 + (1 : Int32) := ⟨_, rfl⟩
                            have hk := hk x236 e_x236
                            refine lv_iinc (v := x236) (lv' := [(5, .int x236), (0, .ref (ad 0)), (1, .int a1), (2, .int x214), (3, .int x215), (4, .int x217)]) hx hb d_R_run_113 hl (k := 5) rfl (by rw [e_x236]; rfl) (by decide) rfl (fun ls hl => ?_)
                            refine lv_goto (tgt := 100) hx hb d_R_run_116 (by decide) ?_
                            exact ih2 _ _ _ _ _ hk hw (lv_sub hl [1, 2, 3, 4, 5, 0] rfl)
                      obtain ⟨n, hk⟩ := hk
                      exact hl2 n _ _ _ _ _ hk hw (lv_sub hl [1, 2, 3, 4, 5, 0] rfl)
                    · have hk := hk.2 hc
                      refine lv_iconst (v := 0) hx hb d_R_run_95 (by decide) ?_
                      exact rt_i hQQ hx hb hr hlk hw ⟨_, rfl, hk⟩ d_R_run_96
                  refine lv_if_ne (tgt := 87) hx hb d_R_run_80 (by decide) (fun hc => ?_) (fun hc => ?_)
                  · have hk := hk.1 hc
                    refine lv_iconst (v := 0) hx hb d_R_run_87 (by decide) ?_
                    exact hj4 _ _ _ _ hk hw (lv_sub hl [1, 2, 3, 4, 0] rfl)
                  · have hk := hk.2 hc
                    refine lv_iconst (v := 1) hx hb d_R_run_83 (by decide) ?_
                    refine lv_goto (tgt := 88) hx hb d_R_run_84 (by decide) ?_
                    exact hj4 _ _ _ _ hk hw (lv_sub hl [1, 2, 3, 4, 0] rfl)
            obtain ⟨n, hk⟩ := hk
            exact hl1 n _ _ _ _ _ _ hk hw (lv_sub hl [2, 3, 1, 0] rfl)
          · have hk := hk.2 hc
            exact hj2 _ _ _ _ hk hw (lv_sub hl [0, 1] rfl)
      refine lv_if_ne (tgt := 40) hx hb d_R_run_33 (by decide) (fun hc => ?_) (fun hc => ?_)
      · have hk := hk.1 hc
        refine lv_iconst (v := 0) hx hb d_R_run_40 (by decide) ?_
        exact hj3 _ _ _ _ hk hw (lv_sub hl [0, 1] rfl)
      · have hk := hk.2 hc
        refine lv_iconst (v := 1) hx hb d_R_run_36 (by decide) ?_
        refine lv_goto (tgt := 41) hx hb d_R_run_37 (by decide) ?_
        exact hj3 _ _ _ _ hk hw (lv_sub hl [0, 1] rfl)
  refine lv_if_ne (tgt := 20) hx hb d_R_run_13 (by decide) (fun hc => ?_) (fun hc => ?_)
  · have hk := hk.1 hc
    refine lv_iconst (v := 0) hx hb d_R_run_20 (by decide) ?_
    exact hj1 _ _ _ _ hk hw (lv_sub hl [0, 1] rfl)
  · have hk := hk.2 hc
    refine lv_iconst (v := 1) hx hb d_R_run_16 (by decide) ?_
    refine lv_goto (tgt := 21) hx hb d_R_run_17 (by decide) ?_
    exact hj1 _ _ _ _ hk hw (lv_sub hl [0, 1] rfl)
set_option maxHeartbeats 4000000 in
set_option maxRecDepth 100000 in
theorem ct_R_registerAt {l : Launch} {D : va_G} {cA : ClassId} {ad tb : Nat → Nat} (M0 : Mem) (a1 : Int32) (Q : Int32 → Prop) (hk : wp_R_registerAt M0 a1 Q) : Ct l y_R_registerAt ws_R_registerAt rm_R_registerAt D (ceR ad cA) cA tb [.ref (ad 0), .int a1] M0 (QIp M0 Q) := by
  refine Ct.of (own := "TileConsoleModel") (cc := b_R_registerAt) (maxL := 2) (ret := (some .int)) ceR_fix (by decide) rfl rfl (Nat.le_of_ble_eq_true rfl) ?_
  intro p e s m args below meth c A QQ ls H locs hQQ hC hr hlk hw hl
  have hx := hC.1.1
  have hb := hC.1.2.1
  unfold wp_R_registerAt at hk
  have hl : lv_has ls 2 [(0, .ref (ad 0)), (1, .int a1)] := hl
  refine lv_iload_n hx hb d_R_registerAt_0 rfl (lv_at hl 1 rfl) ?_
  have hj1 : ∀ (H : Heap) (locs : List Loc) (ls : Array Slot) (x2 : Int32), wp_R_registerAt_j1 x2 Q → Wd D (ceR ad cA) A s H locs M0 → lv_has ls 2 [(0, .ref (ad 0)), (1, .int a1)] → W p l e rm_R_registerAt s m args below meth c H locs 0 0 QQ (F0 m 63 ls [.int x2]) := by
    intro H locs ls x2 hk hw hl
    unfold wp_R_registerAt_j1 at hk
    exact rt_i hQQ hx hb hr hlk hw ⟨rfl, _, rfl, hk⟩ d_R_registerAt_63
  refine lv_if_ne (tgt := 14) hx hb d_R_registerAt_1 (by decide) (fun hc => ?_) (fun hc => ?_)
  · have hk := hk.1 hc
    refine lv_iload_n hx hb d_R_registerAt_14 rfl (lv_at hl 1 rfl) ?_
    refine lv_iconst (v := 1) hx hb d_R_registerAt_15 (by decide) ?_
    refine lv_icmp_ne (tgt := 29) hx hb d_R_registerAt_16 (by decide) (fun hc => ?_) (fun hc => ?_)
    · have hk := hk.1 hc
      refine lv_iload_n hx hb d_R_registerAt_29 rfl (lv_at hl 1 rfl) ?_
      refine lv_bipush (v := 8) hx hb d_R_registerAt_30 (by decide) ?_
      refine lv_icmp_ge (tgt := 46) hx hb d_R_registerAt_32 (by decide) (fun hc => ?_) (fun hc => ?_)
      · have hk := hk.1 hc
        refine lv_iload_n hx hb d_R_registerAt_46 rfl (lv_at hl 1 rfl) ?_
        refine lv_bipush (v := 8) hx hb d_R_registerAt_47 (by decide) ?_
        refine lv_icmp_ne (tgt := 59) hx hb d_R_registerAt_49 (by decide) (fun hc => ?_) (fun hc => ?_)
        · have hk := hk.1 hc
          refine lv_aload_n hx hb d_R_registerAt_59 rfl (lv_at hl 0 rfl) ?_
          refine g_R_pc hC hw q_16 d_R_registerAt_60 ?_
          exact hj1 _ _ _ _ hk hw (lv_sub hl [0, 1] rfl)
        · have hk := hk.2 hc
          refine lv_aload_n hx hb d_R_registerAt_52 rfl (lv_at hl 0 rfl) ?_
          refine g_R_sp hC hw q_15 d_R_registerAt_53 ?_
          refine lv_goto (tgt := 63) hx hb d_R_registerAt_56 (by decide) ?_
          exact hj1 _ _ _ _ hk hw (lv_sub hl [0, 1] rfl)
      · have hk := hk.2 hc
        refine lv_aload_n hx hb d_R_registerAt_35 rfl (lv_at hl 0 rfl) ?_
        refine g_R_r hC hw q_13 d_R_registerAt_36 ?_
        refine lv_iload_n hx hb d_R_registerAt_39 rfl (lv_at hl 1 rfl) ?_
        refine lv_iconst (v := 2) hx hb d_R_registerAt_40 (by decide) ?_
        refine lv_isub hx hb d_R_registerAt_41 ?_
        obtain ⟨hin, hk⟩ := hk
        refine r_ld_8 hC hw hin rfl d_R_registerAt_42 ?_
        refine lv_goto (tgt := 63) hx hb d_R_registerAt_43 (by decide) ?_
        exact hj1 _ _ _ _ hk hw (lv_sub hl [0, 1] rfl)
    · have hk := hk.2 hc
      refine lv_aload_n hx hb d_R_registerAt_19 rfl (lv_at hl 0 rfl) ?_
      refine g_R_r hC hw q_13 d_R_registerAt_20 ?_
      refine lv_bipush (v := 6) hx hb d_R_registerAt_23 (by decide) ?_
      refine r_ld_8 (k := 6) hC hw (vin_lit rfl) (by decide) d_R_registerAt_25 ?_
      refine lv_goto (tgt := 63) hx hb d_R_registerAt_26 (by decide) ?_
      exact hj1 _ _ _ _ hk hw (lv_sub hl [0, 1] rfl)
  · have hk := hk.2 hc
    refine lv_aload_n hx hb d_R_registerAt_4 rfl (lv_at hl 0 rfl) ?_
    refine g_R_r hC hw q_13 d_R_registerAt_5 ?_
    refine lv_bipush (v := 7) hx hb d_R_registerAt_8 (by decide) ?_
    refine r_ld_8 (k := 7) hC hw (vin_lit rfl) (by decide) d_R_registerAt_10 ?_
    refine lv_goto (tgt := 63) hx hb d_R_registerAt_11 (by decide) ?_
    exact hj1 _ _ _ _ hk hw (lv_sub hl [0, 1] rfl)
set_option maxHeartbeats 4000000 in
set_option maxRecDepth 100000 in
theorem ct_R_set {l : Launch} {D : va_G} {cA : ClassId} {ad tb : Nat → Nat} (M0 : Mem) (a1 : Int32) (a2 : Int32) (Q : Int32 → Mem → Prop) (hk : wp_R_set M0 a1 a2 Q) : Ct l y_R_set ws_R_set rm_R_set D (ceR ad cA) cA tb [.ref (ad 0), .int a1, .int a2] M0 (QI Q) := by
  refine Ct.of (own := "TileConsoleModel") (cc := b_R_set) (maxL := 4) (ret := (some .int)) ceR_fix (by decide) rfl rfl (Nat.le_of_ble_eq_true rfl) ?_
  intro p e s m args below meth c A QQ ls H locs hQQ hC hr hlk hw hl
  have hx := hC.1.1
  have hb := hC.1.2.1
  unfold wp_R_set at hk
  have hl : lv_has ls 4 [(0, .ref (ad 0)), (1, .int a1), (2, .int a2)] := hl
  refine lv_aload_n hx hb d_R_set_0 rfl (lv_at hl 0 rfl) ?_
  refine lv_iconst (v := 0) hx hb d_R_set_1 (by decide) ?_
  refine p_R_err hC hw q_46 d_R_set_2 (fun H locs M1 e_M1 hw => ?_)
  have hk := hk M1 e_M1
  refine lv_aload_n hx hb d_R_set_5 rfl (lv_at hl 0 rfl) ?_
  refine lv_iload_n hx hb d_R_set_6 rfl (lv_at hl 1 rfl) ?_
  refine lv_iconst (v := 0) hx hb d_R_set_7 (by decide) ?_
  refine lv_bipush (v := 9) hx hb d_R_set_8 (by decide) ?_
  refine cl_Sip (As := [.int a1, .int (0 : Int32), .int (9 : Int32)]) hC hw (ct_R_in _ _ _ _ _ hk) q_97 mw_R_in rfl ⟨rfl, rfl, Nat.le_of_ble_eq_true rfl, Nat.le_of_ble_eq_true rfl⟩ rfl hl.1 rfl (Nat.le_of_ble_eq_true rfl) d_R_set_10 (fun H locs x2 hk hw => ?_)
  have hj1 : ∀ (H : Heap) (locs : List Loc) (ls : Array Slot) (x19 : Int32), wp_R_set_j1 a1 a2 M1 x19 Q → Wd D (ceR ad cA) A s H locs M1 → lv_has ls 4 [(0, .ref (ad 0)), (1, .int a1), (2, .int a2)] → W p l e rm_R_set s m args below meth c H locs 0 0 QQ (F0 m 21 ls [.int x19, .ref (ad 0)]) := by
    intro H locs ls x19 hk hw hl
    unfold wp_R_set_j1 at hk
    refine lv_iconst (v := 1) hx hb d_R_set_21 (by decide) ?_
    refine cl_Vi (j := 0) (As := [.int x19, .int (1 : Int32)]) hC hw (ct_R_fails _ _ _ _ hk) q_98 mw_R_fails rfl ⟨rfl, rfl, Nat.le_of_ble_eq_true rfl, Nat.le_of_ble_eq_true rfl⟩ rfl rfl rfl hl.1 rfl (Nat.le_of_ble_eq_true rfl) d_R_set_22 (fun H locs x20 M21 hk hw => ?_)
    refine lv_if_eq (tgt := 30) hx hb d_R_set_25 (by decide) (fun hc => ?_) (fun hc => ?_)
    · have hk := hk.1 hc
      refine lv_aload_n hx hb d_R_set_30 rfl (lv_at hl 0 rfl) ?_
      refine lv_iload_n hx hb d_R_set_31 rfl (lv_at hl 1 rfl) ?_
      refine cl_Vip (j := 0) (As := [.int a1]) hC hw (ct_R_registerAt _ _ _ hk) q_103 mw_R_registerAt rfl ⟨rfl, rfl, Nat.le_of_ble_eq_true rfl, Nat.le_of_ble_eq_true rfl⟩ rfl rfl rfl hl.1 rfl (Nat.le_of_ble_eq_true rfl) d_R_set_32 (fun H locs x22 hk hw => ?_)
      refine lv_istore_n (lv' := [(3, .int x22), (0, .ref (ad 0)), (1, .int a1), (2, .int a2)]) hx hb d_R_set_35 rfl hl (by decide) rfl (fun ls hl => ?_)
      refine lv_iload_n hx hb d_R_set_36 rfl (lv_at hl 2 rfl) ?_
      have hj2 : ∀ (H : Heap) (locs : List Loc) (ls : Array Slot) (M29 : Mem), wp_R_set_j2 x22 M29 Q → Wd D (ceR ad cA) A s H locs M29 → lv_has ls 4 [(0, .ref (ad 0)), (1, .int a1), (2, .int a2), (3, .int x22)] → W p l e rm_R_set s m args below meth c H locs 0 0 QQ (F0 m 122 ls []) := by
        intro H locs ls M29 hk hw hl
        unfold wp_R_set_j2 at hk
        refine lv_iload_n hx hb d_R_set_122 rfl (lv_at hl 3 rfl) ?_
        exact rt_i hQQ hx hb hr hlk hw ⟨_, rfl, hk⟩ d_R_set_123
      refine lv_if_ne (tgt := 55) hx hb d_R_set_37 (by decide) (fun hc => ?_) (fun hc => ?_)
      · have hk := hk.1 hc
        refine lv_iload_n hx hb d_R_set_55 rfl (lv_at hl 2 rfl) ?_
        refine lv_iconst (v := 1) hx hb d_R_set_56 (by decide) ?_
        refine lv_icmp_ne (tgt := 75) hx hb d_R_set_57 (by decide) (fun hc => ?_) (fun hc => ?_)
        · have hk := hk.1 hc
          refine lv_iload_n hx hb d_R_set_75 rfl (lv_at hl 2 rfl) ?_
          refine lv_bipush (v := 8) hx hb d_R_set_76 (by decide) ?_
          refine lv_icmp_ge (tgt := 97) hx hb d_R_set_78 (by decide) (fun hc => ?_) (fun hc => ?_)
          · have hk := hk.1 hc
            refine lv_iload_n hx hb d_R_set_97 rfl (lv_at hl 2 rfl) ?_
            refine lv_bipush (v := 8) hx hb d_R_set_98 (by decide) ?_
            refine lv_icmp_ne (tgt := 114) hx hb d_R_set_100 (by decide) (fun hc => ?_) (fun hc => ?_)
            · have hk := hk.1 hc
              refine lv_aload_n hx hb d_R_set_114 rfl (lv_at hl 1 rfl) ?_
              refine lv_iload_n hx hb d_R_set_115 rfl (lv_at hl 3 rfl) ?_
              refine lv_ldc (v := (65535 : Int32)) hx hb hC.1.2.2.2.1 (hC.1.2.2.2.2 _ q_59) d_R_set_116 ?_
              refine lv_iand hx hb d_R_set_118 ?_
              refine p_R_pc hC hw q_16 d_R_set_119 (fun H locs M30 e_M30 hw => ?_)
              have hk := hk M30 e_M30
              exact hj2 _ _ _ _ hk hw (lv_sub hl [1, 2, 3, 0] rfl)
            · have hk := hk.2 hc
              refine lv_aload_n hx hb d_R_set_103 rfl (lv_at hl 1 rfl) ?_
              refine lv_iload_n hx hb d_R_set_104 rfl (lv_at hl 3 rfl) ?_
              refine lv_ldc (v := (65535 : Int32)) hx hb hC.1.2.2.2.1 (hC.1.2.2.2.2 _ q_59) d_R_set_105 ?_
              refine lv_iand hx hb d_R_set_107 ?_
              refine p_R_sp hC hw q_15 d_R_set_108 (fun H locs M31 e_M31 hw => ?_)
              have hk := hk M31 e_M31
              refine lv_goto (tgt := 122) hx hb d_R_set_111 (by decide) ?_
              exact hj2 _ _ _ _ hk hw (lv_sub hl [1, 2, 3, 0] rfl)
          · have hk := hk.2 hc
            refine lv_aload_n hx hb d_R_set_81 rfl (lv_at hl 1 rfl) ?_
            refine g_R_r hC hw q_13 d_R_set_82 ?_
            refine lv_iload_n hx hb d_R_set_85 rfl (lv_at hl 2 rfl) ?_
            refine lv_iconst (v := 2) hx hb d_R_set_86 (by decide) ?_
            refine lv_isub hx hb d_R_set_87 ?_
            refine lv_iload_n hx hb d_R_set_88 rfl (lv_at hl 3 rfl) ?_
            refine lv_sipush (v := 255) hx hb d_R_set_89 (by decide) ?_
            refine lv_iand hx hb d_R_set_92 ?_
            obtain ⟨hin, hk⟩ := hk
            refine r_st_8 hC hw hin rfl d_R_set_93 (fun H locs M32 e_M32 hw => ?_)
            have hk := hk M32 e_M32
            refine lv_goto (tgt := 122) hx hb d_R_set_94 (by decide) ?_
            exact hj2 _ _ _ _ hk hw (lv_sub hl [1, 2, 3, 0] rfl)
        · have hk := hk.2 hc
          refine lv_aload_n hx hb d_R_set_60 rfl (lv_at hl 1 rfl) ?_
          refine g_R_r hC hw q_13 d_R_set_61 ?_
          refine lv_bipush (v := 6) hx hb d_R_set_64 (by decide) ?_
          refine lv_iload_n hx hb d_R_set_66 rfl (lv_at hl 3 rfl) ?_
          refine lv_sipush (v := 240) hx hb d_R_set_67 (by decide) ?_
          refine lv_iand hx hb d_R_set_70 ?_
          refine r_st_8 (k := 6) hC hw (vin_lit rfl) (by decide) d_R_set_71 (fun H locs M33 e_M33 hw => ?_)
          have hk := hk M33 e_M33
          refine lv_goto (tgt := 122) hx hb d_R_set_72 (by decide) ?_
          exact hj2 _ _ _ _ hk hw (lv_sub hl [1, 2, 3, 0] rfl)
      · have hk := hk.2 hc
        refine lv_aload_n hx hb d_R_set_40 rfl (lv_at hl 1 rfl) ?_
        refine g_R_r hC hw q_13 d_R_set_41 ?_
        refine lv_bipush (v := 7) hx hb d_R_set_44 (by decide) ?_
        refine lv_iload_n hx hb d_R_set_46 rfl (lv_at hl 3 rfl) ?_
        refine lv_sipush (v := 255) hx hb d_R_set_47 (by decide) ?_
        refine lv_iand hx hb d_R_set_50 ?_
        refine r_st_8 (k := 7) hC hw (vin_lit rfl) (by decide) d_R_set_51 (fun H locs M34 e_M34 hw => ?_)
        have hk := hk M34 e_M34
        refine lv_goto (tgt := 122) hx hb d_R_set_52 (by decide) ?_
        exact hj2 _ _ _ _ hk hw (lv_sub hl [1, 2, 3, 0] rfl)
    · have hk := hk.2 hc
      refine lv_iconst (v := 0) hx hb d_R_set_28 (by decide) ?_
      exact rt_i hQQ hx hb hr hlk hw ⟨_, rfl, hk⟩ d_R_set_29
  refine lv_if_ne (tgt := 20) hx hb d_R_set_13 (by decide) (fun hc => ?_) (fun hc => ?_)
  · have hk := hk.1 hc
    refine lv_iconst (v := 0) hx hb d_R_set_20 (by decide) ?_
    exact hj1 _ _ _ _ hk hw (lv_sub hl [0, 1, 2] rfl)
  · have hk := hk.2 hc
    refine lv_iconst (v := 1) hx hb d_R_set_16 (by decide) ?_
    refine lv_goto (tgt := 21) hx hb d_R_set_17 (by decide) ?_
    exact hj1 _ _ _ _ hk hw (lv_sub hl [0, 1, 2] rfl)
set_option maxHeartbeats 4000000 in
set_option maxRecDepth 100000 in
theorem ct_R_register {l : Launch} {D : va_G} {cA : ClassId} {ad tb : Nat → Nat} (M0 : Mem) (a1 : Int32) (Q : Int32 → Mem → Prop) (hk : wp_R_register M0 a1 Q) : Ct l y_R_register ws_R_register rm_R_register D (ceR ad cA) cA tb [.ref (ad 0), .int a1] M0 (QI Q) := by
  refine Ct.of (own := "TileConsoleModel") (cc := b_R_register) (maxL := 2) (ret := (some .int)) ceR_fix (by decide) rfl rfl (Nat.le_of_ble_eq_true rfl) ?_
  intro p e s m args below meth c A QQ ls H locs hQQ hC hr hlk hw hl
  have hx := hC.1.1
  have hb := hC.1.2.1
  unfold wp_R_register at hk
  have hl : lv_has ls 2 [(0, .ref (ad 0)), (1, .int a1)] := hl
  refine lv_aload_n hx hb d_R_register_0 rfl (lv_at hl 0 rfl) ?_
  refine lv_iconst (v := 0) hx hb d_R_register_1 (by decide) ?_
  refine p_R_err hC hw q_46 d_R_register_2 (fun H locs M1 e_M1 hw => ?_)
  have hk := hk M1 e_M1
  refine lv_aload_n hx hb d_R_register_5 rfl (lv_at hl 0 rfl) ?_
  refine lv_iload_n hx hb d_R_register_6 rfl (lv_at hl 1 rfl) ?_
  refine lv_iconst (v := 0) hx hb d_R_register_7 (by decide) ?_
  refine lv_bipush (v := 9) hx hb d_R_register_8 (by decide) ?_
  refine cl_Sip (As := [.int a1, .int (0 : Int32), .int (9 : Int32)]) hC hw (ct_R_in _ _ _ _ _ hk) q_97 mw_R_in rfl ⟨rfl, rfl, Nat.le_of_ble_eq_true rfl, Nat.le_of_ble_eq_true rfl⟩ rfl hl.1 rfl (Nat.le_of_ble_eq_true rfl) d_R_register_10 (fun H locs x2 hk hw => ?_)
  have hj1 : ∀ (H : Heap) (locs : List Loc) (ls : Array Slot) (x10 : Int32), wp_R_register_j1 a1 M1 x10 Q → Wd D (ceR ad cA) A s H locs M1 → lv_has ls 2 [(0, .ref (ad 0)), (1, .int a1)] → W p l e rm_R_register s m args below meth c H locs 0 0 QQ (F0 m 21 ls [.int x10, .ref (ad 0)]) := by
    intro H locs ls x10 hk hw hl
    unfold wp_R_register_j1 at hk
    refine lv_iconst (v := 1) hx hb d_R_register_21 (by decide) ?_
    refine cl_Vi (j := 0) (As := [.int x10, .int (1 : Int32)]) hC hw (ct_R_fails _ _ _ _ hk) q_98 mw_R_fails rfl ⟨rfl, rfl, Nat.le_of_ble_eq_true rfl, Nat.le_of_ble_eq_true rfl⟩ rfl rfl rfl hl.1 rfl (Nat.le_of_ble_eq_true rfl) d_R_register_22 (fun H locs x11 M12 hk hw => ?_)
    have hj2 : ∀ (H : Heap) (locs : List Loc) (ls : Array Slot) (x15 : Int32), wp_R_register_j2 M12 x15 Q → Wd D (ceR ad cA) A s H locs M12 → lv_has ls 2 [(0, .ref (ad 0)), (1, .int a1)] → W p l e rm_R_register s m args below meth c H locs 0 0 QQ (F0 m 37 ls [.int x15]) := by
      intro H locs ls x15 hk hw hl
      unfold wp_R_register_j2 at hk
      exact rt_i hQQ hx hb hr hlk hw ⟨_, rfl, hk⟩ d_R_register_37
    refine lv_if_eq (tgt := 32) hx hb d_R_register_25 (by decide) (fun hc => ?_) (fun hc => ?_)
    · have hk := hk.1 hc
      refine lv_aload_n hx hb d_R_register_32 rfl (lv_at hl 0 rfl) ?_
      refine lv_iload_n hx hb d_R_register_33 rfl (lv_at hl 1 rfl) ?_
      refine cl_Vip (j := 0) (As := [.int a1]) hC hw (ct_R_registerAt _ _ _ hk) q_103 mw_R_registerAt rfl ⟨rfl, rfl, Nat.le_of_ble_eq_true rfl, Nat.le_of_ble_eq_true rfl⟩ rfl rfl rfl hl.1 rfl (Nat.le_of_ble_eq_true rfl) d_R_register_34 (fun H locs x16 hk hw => ?_)
      exact hj2 _ _ _ _ hk hw (lv_sub hl [0, 1] rfl)
    · have hk := hk.2 hc
      refine lv_iconst (v := 0) hx hb d_R_register_28 (by decide) ?_
      refine lv_goto (tgt := 37) hx hb d_R_register_29 (by decide) ?_
      exact hj2 _ _ _ _ hk hw (lv_sub hl [0, 1] rfl)
  refine lv_if_ne (tgt := 20) hx hb d_R_register_13 (by decide) (fun hc => ?_) (fun hc => ?_)
  · have hk := hk.1 hc
    refine lv_iconst (v := 0) hx hb d_R_register_20 (by decide) ?_
    exact hj1 _ _ _ _ hk hw (lv_sub hl [0, 1] rfl)
  · have hk := hk.2 hc
    refine lv_iconst (v := 1) hx hb d_R_register_16 (by decide) ?_
    refine lv_goto (tgt := 21) hx hb d_R_register_17 (by decide) ?_
    exact hj1 _ _ _ _ hk hw (lv_sub hl [0, 1] rfl)
set_option maxHeartbeats 4000000 in
set_option maxRecDepth 100000 in
theorem ct_R_read {l : Launch} {D : va_G} {cA : ClassId} {ad tb : Nat → Nat} (M0 : Mem) (a1 : Int32) (Q : Int32 → Mem → Prop) (hk : wp_R_read M0 a1 Q) : Ct l y_R_read ws_R_read rm_R_read D (ceR ad cA) cA tb [.ref (ad 0), .int a1] M0 (QI Q) := by
  refine Ct.of (own := "TileConsoleModel") (cc := b_R_read) (maxL := 2) (ret := (some .int)) ceR_fix (by decide) rfl rfl (Nat.le_of_ble_eq_true rfl) ?_
  intro p e s m args below meth c A QQ ls H locs hQQ hC hr hlk hw hl
  have hx := hC.1.1
  have hb := hC.1.2.1
  unfold wp_R_read at hk
  have hl : lv_has ls 2 [(0, .ref (ad 0)), (1, .int a1)] := hl
  refine lv_aload_n hx hb d_R_read_0 rfl (lv_at hl 0 rfl) ?_
  refine lv_iconst (v := 0) hx hb d_R_read_1 (by decide) ?_
  refine p_R_err hC hw q_46 d_R_read_2 (fun H locs M1 e_M1 hw => ?_)
  have hk := hk M1 e_M1
  refine lv_aload_n hx hb d_R_read_5 rfl (lv_at hl 0 rfl) ?_
  refine lv_iload_n hx hb d_R_read_6 rfl (lv_at hl 1 rfl) ?_
  refine lv_iconst (v := 0) hx hb d_R_read_7 (by decide) ?_
  refine lv_ldc (v := (65535 : Int32)) hx hb hC.1.2.2.2.1 (hC.1.2.2.2.2 _ q_59) d_R_read_8 ?_
  refine cl_Sip (As := [.int a1, .int (0 : Int32), .int (65535 : Int32)]) hC hw (ct_R_in _ _ _ _ _ hk) q_97 mw_R_in rfl ⟨rfl, rfl, Nat.le_of_ble_eq_true rfl, Nat.le_of_ble_eq_true rfl⟩ rfl hl.1 rfl (Nat.le_of_ble_eq_true rfl) d_R_read_10 (fun H locs x2 hk hw => ?_)
  have hj1 : ∀ (H : Heap) (locs : List Loc) (ls : Array Slot) (x10 : Int32), wp_R_read_j1 a1 M1 x10 Q → Wd D (ceR ad cA) A s H locs M1 → lv_has ls 2 [(0, .ref (ad 0)), (1, .int a1)] → W p l e rm_R_read s m args below meth c H locs 0 0 QQ (F0 m 21 ls [.int x10, .ref (ad 0)]) := by
    intro H locs ls x10 hk hw hl
    unfold wp_R_read_j1 at hk
    refine lv_iconst (v := 1) hx hb d_R_read_21 (by decide) ?_
    refine cl_Vi (j := 0) (As := [.int x10, .int (1 : Int32)]) hC hw (ct_R_fails _ _ _ _ hk) q_98 mw_R_fails rfl ⟨rfl, rfl, Nat.le_of_ble_eq_true rfl, Nat.le_of_ble_eq_true rfl⟩ rfl rfl rfl hl.1 rfl (Nat.le_of_ble_eq_true rfl) d_R_read_22 (fun H locs x11 M12 hk hw => ?_)
    have hj2 : ∀ (H : Heap) (locs : List Loc) (ls : Array Slot) (x15 : Int32), wp_R_read_j2 M12 x15 Q → Wd D (ceR ad cA) A s H locs M12 → lv_has ls 2 [(0, .ref (ad 0)), (1, .int a1)] → W p l e rm_R_read s m args below meth c H locs 0 0 QQ (F0 m 37 ls [.int x15]) := by
      intro H locs ls x15 hk hw hl
      unfold wp_R_read_j2 at hk
      exact rt_i hQQ hx hb hr hlk hw ⟨_, rfl, hk⟩ d_R_read_37
    refine lv_if_eq (tgt := 32) hx hb d_R_read_25 (by decide) (fun hc => ?_) (fun hc => ?_)
    · have hk := hk.1 hc
      refine lv_aload_n hx hb d_R_read_32 rfl (lv_at hl 0 rfl) ?_
      refine lv_iload_n hx hb d_R_read_33 rfl (lv_at hl 1 rfl) ?_
      refine cl_Vip (j := 0) (As := [.int a1]) hC hw (ct_R_get _ _ _ hk) q_66 mw_R_get rfl ⟨rfl, rfl, Nat.le_of_ble_eq_true rfl, Nat.le_of_ble_eq_true rfl⟩ rfl rfl rfl hl.1 rfl (Nat.le_of_ble_eq_true rfl) d_R_read_34 (fun H locs x16 hk hw => ?_)
      exact hj2 _ _ _ _ hk hw (lv_sub hl [0, 1] rfl)
    · have hk := hk.2 hc
      refine lv_iconst (v := 0) hx hb d_R_read_28 (by decide) ?_
      refine lv_goto (tgt := 37) hx hb d_R_read_29 (by decide) ?_
      exact hj2 _ _ _ _ hk hw (lv_sub hl [0, 1] rfl)
  refine lv_if_ne (tgt := 20) hx hb d_R_read_13 (by decide) (fun hc => ?_) (fun hc => ?_)
  · have hk := hk.1 hc
    refine lv_iconst (v := 0) hx hb d_R_read_20 (by decide) ?_
    exact hj1 _ _ _ _ hk hw (lv_sub hl [0, 1] rfl)
  · have hk := hk.2 hc
    refine lv_iconst (v := 1) hx hb d_R_read_16 (by decide) ?_
    refine lv_goto (tgt := 21) hx hb d_R_read_17 (by decide) ?_
    exact hj1 _ _ _ _ hk hw (lv_sub hl [0, 1] rfl)
set_option maxHeartbeats 4000000 in
set_option maxRecDepth 100000 in
theorem ct_R_write {l : Launch} {D : va_G} {cA : ClassId} {ad tb : Nat → Nat} (M0 : Mem) (a1 : Int32) (a2 : Int32) (a3 : Int64) (Q : Int32 → Mem → Prop) (hk : wp_R_write M0 a1 a2 a3 Q) : Ct l y_R_write ws_R_write rm_R_write D (ceR ad cA) cA tb [.ref (ad 0), .int a1, .int a2, .long a3] M0 (QI Q) := by
  refine Ct.of (own := "TileConsoleModel") (cc := b_R_write) (maxL := 6) (ret := (some .int)) ceR_fix (by decide) rfl rfl (Nat.le_of_ble_eq_true rfl) ?_
  intro p e s m args below meth c A QQ ls H locs hQQ hC hr hlk hw hl
  have hx := hC.1.1
  have hb := hC.1.2.1
  unfold wp_R_write at hk
  have hl : lv_has ls 6 [(0, .ref (ad 0)), (1, .int a1), (2, .int a2), (3, .long a3)] := hl
  refine lv_aload_n hx hb d_R_write_0 rfl (lv_at hl 0 rfl) ?_
  refine lv_iconst (v := 0) hx hb d_R_write_1 (by decide) ?_
  refine p_R_err hC hw q_46 d_R_write_2 (fun H locs M1 e_M1 hw => ?_)
  have hk := hk M1 e_M1
  refine lv_aload_n hx hb d_R_write_5 rfl (lv_at hl 0 rfl) ?_
  refine lv_iload_n hx hb d_R_write_6 rfl (lv_at hl 2 rfl) ?_
  refine lv_iconst (v := 1) hx hb d_R_write_7 (by decide) ?_
  refine lv_bipush (v := 8) hx hb d_R_write_8 (by decide) ?_
  refine cl_Sip (As := [.int a2, .int (1 : Int32), .int (8 : Int32)]) hC hw (ct_R_in _ _ _ _ _ hk) q_97 mw_R_in rfl ⟨rfl, rfl, Nat.le_of_ble_eq_true rfl, Nat.le_of_ble_eq_true rfl⟩ rfl hl.1 rfl (Nat.le_of_ble_eq_true rfl) d_R_write_10 (fun H locs x2 hk hw => ?_)
  have hj1 : ∀ (H : Heap) (locs : List Loc) (ls : Array Slot) (x38 : Int32), wp_R_write_j1 a1 a2 a3 M1 x38 Q → Wd D (ceR ad cA) A s H locs M1 → lv_has ls 6 [(0, .ref (ad 0)), (1, .int a1), (2, .int a2), (3, .long a3)] → W p l e rm_R_write s m args below meth c H locs 0 0 QQ (F0 m 21 ls [.int x38, .ref (ad 0)]) := by
    intro H locs ls x38 hk hw hl
    unfold wp_R_write_j1 at hk
    refine lv_iconst (v := 1) hx hb d_R_write_21 (by decide) ?_
    refine cl_Vi (j := 0) (As := [.int x38, .int (1 : Int32)]) hC hw (ct_R_fails _ _ _ _ hk) q_98 mw_R_fails rfl ⟨rfl, rfl, Nat.le_of_ble_eq_true rfl, Nat.le_of_ble_eq_true rfl⟩ rfl rfl rfl hl.1 rfl (Nat.le_of_ble_eq_true rfl) d_R_write_22 (fun H locs x39 M40 hk hw => ?_)
    have hj2 : ∀ (H : Heap) (locs : List Loc) (ls : Array Slot) (M57 : Mem), wp_R_write_j2 M57 Q → Wd D (ceR ad cA) A s H locs M57 → lv_has ls 6 [(0, .ref (ad 0)), (1, .int a1), (2, .int a2), (3, .long a3)] → W p l e rm_R_write s m args below meth c H locs 0 0 QQ (F0 m 54 ls []) := by
      intro H locs ls M57 hk hw hl
      unfold wp_R_write_j2 at hk
      refine lv_iconst (v := 0) hx hb d_R_write_54 (by decide) ?_
      exact rt_i hQQ hx hb hr hlk hw ⟨_, rfl, hk⟩ d_R_write_55
    refine lv_if_ne (tgt := 54) hx hb d_R_write_25 (by decide) (fun hc => ?_) (fun hc => ?_)
    · have hk := hk.1 hc
      exact hj2 _ _ _ _ hk hw (lv_sub hl [0, 1, 2, 3] rfl)
    · have hk := hk.2 hc
      refine lv_aload_n hx hb d_R_write_28 rfl (lv_at hl 0 rfl) ?_
      refine lv_iload_n hx hb d_R_write_29 rfl (lv_at hl 1 rfl) ?_
      refine lv_iconst (v := 0) hx hb d_R_write_30 (by decide) ?_
      refine lv_ldcw (v := (65536 : Int32)) hx hb hC.1.2.2.2.1 (hC.1.2.2.2.2 _ q_104) d_R_write_31 ?_
      refine lv_iload_n hx hb d_R_write_34 rfl (lv_at hl 2 rfl) ?_
      refine lv_isub hx hb d_R_write_35 ?_
      refine cl_Sip (As := [.int a1, .int (0 : Int32), .int ((65536 : Int32) - a2)]) hC hw (ct_R_in _ _ _ _ _ hk) q_97 mw_R_in rfl ⟨rfl, rfl, Nat.le_of_ble_eq_true rfl, Nat.le_of_ble_eq_true rfl⟩ rfl hl.1 rfl (Nat.le_of_ble_eq_true rfl) d_R_write_36 (fun H locs x58 hk hw => ?_)
      have hj3 : ∀ (H : Heap) (locs : List Loc) (ls : Array Slot) (x66 : Int32), wp_R_write_j3 a1 a2 a3 M40 x66 Q → Wd D (ceR ad cA) A s H locs M40 → lv_has ls 6 [(0, .ref (ad 0)), (1, .int a1), (2, .int a2), (3, .long a3)] → W p l e rm_R_write s m args below meth c H locs 0 0 QQ (F0 m 47 ls [.int x66, .ref (ad 0)]) := by
        intro H locs ls x66 hk hw hl
        unfold wp_R_write_j3 at hk
        refine lv_iconst (v := 1) hx hb d_R_write_47 (by decide) ?_
        refine cl_Vi (j := 0) (As := [.int x66, .int (1 : Int32)]) hC hw (ct_R_fails _ _ _ _ hk) q_98 mw_R_fails rfl ⟨rfl, rfl, Nat.le_of_ble_eq_true rfl, Nat.le_of_ble_eq_true rfl⟩ rfl rfl rfl hl.1 rfl (Nat.le_of_ble_eq_true rfl) d_R_write_48 (fun H locs x67 M68 hk hw => ?_)
        refine lv_if_eq (tgt := 56) hx hb d_R_write_51 (by decide) (fun hc => ?_) (fun hc => ?_)
        · have hk := hk.1 hc
          refine lv_iconst (v := 0) hx hb d_R_write_56 (by decide) ?_
          refine lv_istore (lv' := [(5, .int (0 : Int32)), (0, .ref (ad 0)), (1, .int a1), (2, .int a2), (3, .long a3)]) hx hb d_R_write_57 hl (by decide) rfl (fun ls hl => ?_)
          have hl1 : ∀ (n : Nat) (H : Heap) (locs : List Loc) (ls : Array Slot) (x69 : Int32) (M70 : Mem), wp_R_write_l1 a1 a2 a3 Q n x69 M70 → Wd D (ceR ad cA) A s H locs M70 → lv_has ls 6 [(0, .ref (ad 0)), (1, .int a1), (2, .int a2), (3, .long a3), (5, .int x69)] → W p l e rm_R_write s m args below meth c H locs 0 0 QQ (F0 m 59 ls []) := by
            intro n
            induction n with
            | zero => intro H locs ls x69 M70 hk; exact False.elim hk
            | succ n1 ih1 =>
              intro H locs ls x69 M70 hk hw hl
              refine lv_iload hx hb d_R_write_59 (lv_at hl 4 rfl) ?_
              refine lv_iload_n hx hb d_R_write_61 rfl (lv_at hl 2 rfl) ?_
              refine lv_icmp_ge (tgt := 91) hx hb d_R_write_62 (by decide) (fun hc => ?_) (fun hc => ?_)
              · have hk := hk.1 hc
                refine lv_iload_n hx hb d_R_write_91 rfl (lv_at hl 2 rfl) ?_
                exact rt_i hQQ hx hb hr hlk hw ⟨_, rfl, hk⟩ d_R_write_92
              · have hk := hk.2 hc
                refine lv_aload_n hx hb d_R_write_65 rfl (lv_at hl 0 rfl) ?_
                refine lv_iload_n hx hb d_R_write_66 rfl (lv_at hl 1 rfl) ?_
                refine lv_iload hx hb d_R_write_67 (lv_at hl 4 rfl) ?_
                refine lv_iadd hx hb d_R_write_69 ?_
                refine lv_lload_n hx hb d_R_write_70 rfl (lv_at hl 3 rfl) ?_
                refine lv_bipush (v := 8) hx hb d_R_write_71 (by decide) ?_
                refine lv_iload hx hb d_R_write_73 (lv_at hl 4 rfl) ?_
                refine lv_imul hx hb d_R_write_75 ?_
                refine lv_lushr hx hb d_R_write_76 rfl ?_
                refine lv_ldc2 (v := (255 : Int64)) hx hb hC.1.2.2.2.1 (hC.1.2.2.2.2 _ q_99) d_R_write_77 ?_
                refine lv_land hx hb d_R_write_80 ?_
                refine lv_l2i hx hb d_R_write_81 rfl ?_
                refine cl_Vv (j := 0) (As := [.int (a1 + x69), .int (((a3.toUInt64 >>> (((8 : Int32) * x69).toInt64.toUInt64 &&& Int64.toUInt64 63)).toInt64 &&& (255 : Int64)).toInt32)]) hC hw (ct_R_put _ _ _ _ hk) q_70 mw_R_put rfl ⟨rfl, rfl, Nat.le_of_ble_eq_true rfl, Nat.le_of_ble_eq_true rfl⟩ rfl rfl rfl hl.1 rfl (Nat.le_of_ble_eq_true rfl) d_R_write_82 (fun H locs M71 hk hw => ?_)
                obtain ⟨x72, e_x72⟩ : ∃ y : Int32, y = x69 + (1 : Int32) := ⟨_, rfl⟩
                have hk := hk x72 e_x72
                refine lv_iinc (v := x72) (lv' := [(5, .int x72), (0, .ref (ad 0)), (1, .int a1), (2, .int a2), (3, .long a3)]) hx hb d_R_write_85 hl (k := 4) rfl (by rw [e_x72]; rfl) (by decide) rfl (fun ls hl => ?_)
                refine lv_goto (tgt := 59) hx hb d_R_write_88 (by decide) ?_
                exact ih1 _ _ _ _ _ hk hw (lv_sub hl [1, 2, 3, 4, 0] rfl)
          obtain ⟨n, hk⟩ := hk
          exact hl1 n _ _ _ _ _ hk hw (lv_sub hl [1, 2, 3, 4, 0] rfl)
        · have hk := hk.2 hc
          exact hj2 _ _ _ _ hk hw (lv_sub hl [0, 1, 2, 3] rfl)
      refine lv_if_ne (tgt := 46) hx hb d_R_write_39 (by decide) (fun hc => ?_) (fun hc => ?_)
      · have hk := hk.1 hc
        refine lv_iconst (v := 0) hx hb d_R_write_46 (by decide) ?_
        exact hj3 _ _ _ _ hk hw (lv_sub hl [0, 1, 2, 3] rfl)
      · have hk := hk.2 hc
        refine lv_iconst (v := 1) hx hb d_R_write_42 (by decide) ?_
        refine lv_goto (tgt := 47) hx hb d_R_write_43 (by decide) ?_
        exact hj3 _ _ _ _ hk hw (lv_sub hl [0, 1, 2, 3] rfl)
  refine lv_if_ne (tgt := 20) hx hb d_R_write_13 (by decide) (fun hc => ?_) (fun hc => ?_)
  · have hk := hk.1 hc
    refine lv_iconst (v := 0) hx hb d_R_write_20 (by decide) ?_
    exact hj1 _ _ _ _ hk hw (lv_sub hl [0, 1, 2, 3] rfl)
  · have hk := hk.2 hc
    refine lv_iconst (v := 1) hx hb d_R_write_16 (by decide) ?_
    refine lv_goto (tgt := 21) hx hb d_R_write_17 (by decide) ?_
    exact hj1 _ _ _ _ hk hw (lv_sub hl [0, 1, 2, 3] rfl)
set_option maxHeartbeats 4000000 in
set_option maxRecDepth 100000 in
theorem ct_R_keys {l : Launch} {D : va_G} {cA : ClassId} {ad tb : Nat → Nat} (M0 : Mem) (a1 : Int32) (Q : Int32 → Mem → Prop) (hk : wp_R_keys M0 a1 Q) : Ct l y_R_keys ws_R_keys rm_R_keys D (ceR ad cA) cA tb [.ref (ad 0), .int a1] M0 (QI Q) := by
  refine Ct.of (own := "TileConsoleModel") (cc := b_R_keys) (maxL := 3) (ret := (some .int)) ceR_fix (by decide) rfl rfl (Nat.le_of_ble_eq_true rfl) ?_
  intro p e s m args below meth c A QQ ls H locs hQQ hC hr hlk hw hl
  have hx := hC.1.1
  have hb := hC.1.2.1
  unfold wp_R_keys at hk
  have hl : lv_has ls 3 [(0, .ref (ad 0)), (1, .int a1)] := hl
  refine lv_aload_n hx hb d_R_keys_0 rfl (lv_at hl 0 rfl) ?_
  refine lv_iconst (v := 0) hx hb d_R_keys_1 (by decide) ?_
  refine p_R_err hC hw q_46 d_R_keys_2 (fun H locs M1 e_M1 hw => ?_)
  have hk := hk M1 e_M1
  refine lv_aload_n hx hb d_R_keys_5 rfl (lv_at hl 0 rfl) ?_
  refine lv_iload_n hx hb d_R_keys_6 rfl (lv_at hl 1 rfl) ?_
  refine lv_iconst (v := 0) hx hb d_R_keys_7 (by decide) ?_
  refine lv_sipush (v := 255) hx hb d_R_keys_8 (by decide) ?_
  refine cl_Sip (As := [.int a1, .int (0 : Int32), .int (255 : Int32)]) hC hw (ct_R_in _ _ _ _ _ hk) q_97 mw_R_in rfl ⟨rfl, rfl, Nat.le_of_ble_eq_true rfl, Nat.le_of_ble_eq_true rfl⟩ rfl hl.1 rfl (Nat.le_of_ble_eq_true rfl) d_R_keys_11 (fun H locs x2 hk hw => ?_)
  have hj1 : ∀ (H : Heap) (locs : List Loc) (ls : Array Slot) (x13 : Int32), wp_R_keys_j1 a1 M1 x13 Q → Wd D (ceR ad cA) A s H locs M1 → lv_has ls 3 [(0, .ref (ad 0)), (1, .int a1)] → W p l e rm_R_keys s m args below meth c H locs 0 0 QQ (F0 m 22 ls [.int x13, .ref (ad 0)]) := by
    intro H locs ls x13 hk hw hl
    unfold wp_R_keys_j1 at hk
    refine lv_iconst (v := 1) hx hb d_R_keys_22 (by decide) ?_
    refine cl_Vi (j := 0) (As := [.int x13, .int (1 : Int32)]) hC hw (ct_R_fails _ _ _ _ hk) q_98 mw_R_fails rfl ⟨rfl, rfl, Nat.le_of_ble_eq_true rfl, Nat.le_of_ble_eq_true rfl⟩ rfl rfl rfl hl.1 rfl (Nat.le_of_ble_eq_true rfl) d_R_keys_23 (fun H locs x14 M15 hk hw => ?_)
    refine lv_if_eq (tgt := 31) hx hb d_R_keys_26 (by decide) (fun hc => ?_) (fun hc => ?_)
    · have hk := hk.1 hc
      refine lv_aload_n hx hb d_R_keys_31 rfl (lv_at hl 0 rfl) ?_
      refine g_R_keysDown hC hw q_49 d_R_keys_32 ?_
      refine lv_topi (fun x16 e_x16 => ?_)
      have hk := hk x16 e_x16
      refine lv_istore_n (lv' := [(2, .int x16), (0, .ref (ad 0)), (1, .int a1)]) hx hb d_R_keys_35 rfl hl (by decide) rfl (fun ls hl => ?_)
      refine lv_iload_n hx hb d_R_keys_36 rfl (lv_at hl 2 rfl) ?_
      refine lv_iload_n hx hb d_R_keys_37 rfl (lv_at hl 0 rfl) ?_
      refine lv_iconst (v := (-1)) hx hb d_R_keys_38 (by decide) ?_
      refine lv_ixor hx hb d_R_keys_39 ?_
      refine lv_iand hx hb d_R_keys_40 ?_
      have hj2 : ∀ (H : Heap) (locs : List Loc) (ls : Array Slot) (M20 : Mem), wp_R_keys_j2 a1 x16 M20 Q → Wd D (ceR ad cA) A s H locs M20 → lv_has ls 3 [(0, .ref (ad 0)), (1, .int a1), (2, .int x16)] → W p l e rm_R_keys s m args below meth c H locs 0 0 QQ (F0 m 55 ls []) := by
        intro H locs ls M20 hk hw hl
        unfold wp_R_keys_j2 at hk
        refine lv_aload_n hx hb d_R_keys_55 rfl (lv_at hl 0 rfl) ?_
        refine lv_iload_n hx hb d_R_keys_56 rfl (lv_at hl 1 rfl) ?_
        refine p_R_keysDown hC hw q_49 d_R_keys_57 (fun H locs M21 e_M21 hw => ?_)
        have hk := hk M21 e_M21
        refine lv_iload_n hx hb d_R_keys_60 rfl (lv_at hl 2 rfl) ?_
        exact rt_i hQQ hx hb hr hlk hw ⟨_, rfl, hk⟩ d_R_keys_61
      refine lv_if_eq (tgt := 55) hx hb d_R_keys_41 (by decide) (fun hc => ?_) (fun hc => ?_)
      · have hk := hk.1 hc
        exact hj2 _ _ _ _ hk hw (lv_sub hl [1, 2, 0] rfl)
      · have hk := hk.2 hc
        refine lv_aload_n hx hb d_R_keys_44 rfl (lv_at hl 1 rfl) ?_
        refine lv_dup hx hb d_R_keys_45 rfl ?_
        refine g_R_flags hC hw q_26 d_R_keys_46 ?_
        refine lv_bipush (v := 16) hx hb d_R_keys_49 (by decide) ?_
        refine lv_ior hx hb d_R_keys_51 ?_
        refine p_R_flags hC hw q_26 d_R_keys_52 (fun H locs M22 e_M22 hw => ?_)
        have hk := hk M22 e_M22
        exact hj2 _ _ _ _ hk hw (lv_sub hl [1, 2, 0] rfl)
    · have hk := hk.2 hc
      refine lv_iconst (v := 0) hx hb d_R_keys_29 (by decide) ?_
      exact rt_i hQQ hx hb hr hlk hw ⟨_, rfl, hk⟩ d_R_keys_30
  refine lv_if_ne (tgt := 21) hx hb d_R_keys_14 (by decide) (fun hc => ?_) (fun hc => ?_)
  · have hk := hk.1 hc
    refine lv_iconst (v := 0) hx hb d_R_keys_21 (by decide) ?_
    exact hj1 _ _ _ _ hk hw (lv_sub hl [0, 1] rfl)
  · have hk := hk.2 hc
    refine lv_iconst (v := 1) hx hb d_R_keys_17 (by decide) ?_
    refine lv_goto (tgt := 22) hx hb d_R_keys_18 (by decide) ?_
    exact hj1 _ _ _ _ hk hw (lv_sub hl [0, 1] rfl)
set_option maxHeartbeats 4000000 in
set_option maxRecDepth 100000 in
theorem ct_R_dots {l : Launch} {D : va_G} {cA : ClassId} {ad tb : Nat → Nat} (M0 : Mem) (a1 : Int32) (a2 : Int32) (Q : Int32 → Prop) (hk : wp_R_dots M0 a1 a2 Q) : Ct l y_R_dots ws_R_dots rm_R_dots D (ceR ad cA) cA tb [.ref (ad 0), .int a1, .int a2] M0 (QIp M0 Q) := by
  refine Ct.of (own := "TileConsoleModel") (cc := b_R_dots) (maxL := 3) (ret := (some .int)) ceR_fix (by decide) rfl rfl (Nat.le_of_ble_eq_true rfl) ?_
  intro p e s m args below meth c A QQ ls H locs hQQ hC hr hlk hw hl
  have hx := hC.1.1
  have hb := hC.1.2.1
  unfold wp_R_dots at hk
  have hl : lv_has ls 3 [(0, .ref (ad 0)), (1, .int a1), (2, .int a2)] := hl
  refine lv_aload_n hx hb d_R_dots_0 rfl (lv_at hl 0 rfl) ?_
  refine g_R_video hC hw q_0 d_R_dots_1 ?_
  refine lv_iload_n hx hb d_R_dots_4 rfl (lv_at hl 1 rfl) ?_
  refine lv_ldc (v := (32768 : Int32)) hx hb hC.1.2.2.2.1 (hC.1.2.2.2.2 _ q_52) d_R_dots_5 ?_
  refine lv_isub hx hb d_R_dots_7 ?_
  obtain ⟨hin, hk⟩ := hk
  refine r_ld_3 hC hw hin rfl d_R_dots_8 ?_
  refine lv_bipush (v := 7) hx hb d_R_dots_9 (by decide) ?_
  refine lv_iload_n hx hb d_R_dots_11 rfl (lv_at hl 2 rfl) ?_
  refine lv_isub hx hb d_R_dots_12 ?_
  refine lv_ishr hx hb d_R_dots_13 ?_
  refine lv_iconst (v := 1) hx hb d_R_dots_14 (by decide) ?_
  refine lv_iand hx hb d_R_dots_15 ?_
  refine lv_aload_n hx hb d_R_dots_16 rfl (lv_at hl 0 rfl) ?_
  refine g_R_video hC hw q_0 d_R_dots_17 ?_
  refine lv_iload_n hx hb d_R_dots_20 rfl (lv_at hl 1 rfl) ?_
  refine lv_sipush (v := 32767) hx hb d_R_dots_21 (by decide) ?_
  refine lv_isub hx hb d_R_dots_24 ?_
  obtain ⟨hin, hk⟩ := hk
  refine r_ld_3 hC hw hin rfl d_R_dots_25 ?_
  refine lv_bipush (v := 7) hx hb d_R_dots_26 (by decide) ?_
  refine lv_iload_n hx hb d_R_dots_28 rfl (lv_at hl 2 rfl) ?_
  refine lv_isub hx hb d_R_dots_29 ?_
  refine lv_ishr hx hb d_R_dots_30 ?_
  refine lv_iconst (v := 1) hx hb d_R_dots_31 (by decide) ?_
  refine lv_iand hx hb d_R_dots_32 ?_
  refine lv_iconst (v := 1) hx hb d_R_dots_33 (by decide) ?_
  refine lv_ishl hx hb d_R_dots_34 ?_
  refine lv_ior hx hb d_R_dots_35 ?_
  exact rt_i hQQ hx hb hr hlk hw ⟨rfl, _, rfl, hk⟩ d_R_dots_36
set_option maxHeartbeats 4000000 in
set_option maxRecDepth 100000 in
theorem ct_R_background {l : Launch} {D : va_G} {cA : ClassId} {ad tb : Nat → Nat} (M0 : Mem) (a1 : Int32) (a2 : Int32) (Q : Int32 → Prop) (hk : wp_R_background M0 a1 a2 Q) : Ct l y_R_background ws_R_background rm_R_background D (ceR ad cA) cA tb [.ref (ad 0), .int a1, .int a2] M0 (QIp M0 Q) := by
  refine Ct.of (own := "TileConsoleModel") (cc := b_R_background) (maxL := 8) (ret := (some .int)) ceR_fix (by decide) rfl rfl (Nat.le_of_ble_eq_true rfl) ?_
  intro p e s m args below meth c A QQ ls H locs hQQ hC hr hlk hw hl
  have hx := hC.1.1
  have hb := hC.1.2.1
  unfold wp_R_background at hk
  have hl : lv_has ls 8 [(0, .ref (ad 0)), (1, .int a1), (2, .int a2)] := hl
  refine lv_aload_n hx hb d_R_background_0 rfl (lv_at hl 0 rfl) ?_
  refine g_R_lcdc hC hw q_28 d_R_background_1 ?_
  refine lv_iconst (v := 1) hx hb d_R_background_4 (by decide) ?_
  refine lv_iand hx hb d_R_background_5 ?_
  refine lv_if_ne (tgt := 11) hx hb d_R_background_6 (by decide) (fun hc => ?_) (fun hc => ?_)
  · have hk := hk.1 hc
    refine lv_aload_n hx hb d_R_background_11 rfl (lv_at hl 0 rfl) ?_
    refine g_R_lcdc hC hw q_28 d_R_background_12 ?_
    refine lv_bipush (v := 32) hx hb d_R_background_15 (by decide) ?_
    refine lv_iand hx hb d_R_background_17 ?_
    have hj1 : ∀ (H : Heap) (locs : List Loc) (ls : Array Slot) (x144 : Int32), wp_R_background_j1 M0 a1 a2 x144 Q → Wd D (ceR ad cA) A s H locs M0 → lv_has ls 8 [(0, .ref (ad 0)), (1, .int a1), (2, .int a2)] → W p l e rm_R_background s m args below meth c H locs 0 0 QQ (F0 m 45 ls [.int x144]) := by
      intro H locs ls x144 hk hw hl
      unfold wp_R_background_j1 at hk
      refine lv_istore_n (lv' := [(3, .int x144), (0, .ref (ad 0)), (1, .int a1), (2, .int a2)]) hx hb d_R_background_45 rfl hl (by decide) rfl (fun ls hl => ?_)
      refine lv_iload_n hx hb d_R_background_46 rfl (lv_at hl 0 rfl) ?_
      have hj2 : ∀ (H : Heap) (locs : List Loc) (ls : Array Slot) (x216 : Int32), wp_R_background_j2 M0 a2 x144 x216 Q → Wd D (ceR ad cA) A s H locs M0 → lv_has ls 8 [(0, .ref (ad 0)), (1, .int a1), (2, .int a2), (3, .int x144)] → W p l e rm_R_background s m args below meth c H locs 0 0 QQ (F0 m 72 ls [.int x216]) := by
        intro H locs ls x216 hk hw hl
        unfold wp_R_background_j2 at hk
        refine lv_istore (lv' := [(4, .int x216), (0, .ref (ad 0)), (1, .int a1), (2, .int a2), (3, .int x144)]) hx hb d_R_background_72 hl (by decide) rfl (fun ls hl => ?_)
        refine lv_iload_n hx hb d_R_background_74 rfl (lv_at hl 4 rfl) ?_
        have hj3 : ∀ (H : Heap) (locs : List Loc) (ls : Array Slot) (x252 : Int32), wp_R_background_j3 M0 x144 x216 x252 Q → Wd D (ceR ad cA) A s H locs M0 → lv_has ls 8 [(0, .ref (ad 0)), (1, .int a1), (2, .int a2), (3, .int x144), (4, .int x216)] → W p l e rm_R_background s m args below meth c H locs 0 0 QQ (F0 m 97 ls [.int x252]) := by
          intro H locs ls x252 hk hw hl
          unfold wp_R_background_j3 at hk
          refine lv_istore (lv' := [(5, .int x252), (0, .ref (ad 0)), (1, .int a1), (2, .int a2), (3, .int x144), (4, .int x216)]) hx hb d_R_background_97 hl (by decide) rfl (fun ls hl => ?_)
          refine lv_aload_n hx hb d_R_background_99 rfl (lv_at hl 1 rfl) ?_
          refine g_R_lcdc hC hw q_28 d_R_background_100 ?_
          refine lv_iload_n hx hb d_R_background_103 rfl (lv_at hl 4 rfl) ?_
          have hj4 : ∀ (H : Heap) (locs : List Loc) (ls : Array Slot) (x270 : Int32), wp_R_background_j4 M0 x216 x252 x270 Q → Wd D (ceR ad cA) A s H locs M0 → lv_has ls 8 [(0, .ref (ad 0)), (1, .int a1), (2, .int a2), (3, .int x144), (4, .int x216), (5, .int x252)] → W p l e rm_R_background s m args below meth c H locs 0 0 QQ (F0 m 114 ls [.int x270, .int (M0 0 33)]) := by
            intro H locs ls x270 hk hw hl
            unfold wp_R_background_j4 at hk
            refine lv_iand hx hb d_R_background_114 ?_
            have hj5 : ∀ (H : Heap) (locs : List Loc) (ls : Array Slot) (x279 : Int32), wp_R_background_j5 M0 x216 x252 x279 Q → Wd D (ceR ad cA) A s H locs M0 → lv_has ls 8 [(0, .ref (ad 0)), (1, .int a1), (2, .int a2), (3, .int x144), (4, .int x216), (5, .int x252)] → W p l e rm_R_background s m args below meth c H locs 0 0 QQ (F0 m 127 ls [.int x279]) := by
              intro H locs ls x279 hk hw hl
              unfold wp_R_background_j5 at hk
              refine lv_istore (lv' := [(6, .int x279), (0, .ref (ad 0)), (1, .int a1), (2, .int a2), (3, .int x144), (4, .int x216), (5, .int x252)]) hx hb d_R_background_127 hl (by decide) rfl (fun ls hl => ?_)
              refine lv_aload_n hx hb d_R_background_129 rfl (lv_at hl 1 rfl) ?_
              refine g_R_video hC hw q_0 d_R_background_130 ?_
              refine lv_iload hx hb d_R_background_133 (lv_at hl 0 rfl) ?_
              refine lv_bipush (v := 32) hx hb d_R_background_135 (by decide) ?_
              refine lv_iload hx hb d_R_background_137 (lv_at hl 6 rfl) ?_
              refine lv_bipush (v := 8) hx hb d_R_background_139 (by decide) ?_
              refine lv_idiv hx hb d_R_background_141 (by decide) ?_
              refine lv_imul hx hb d_R_background_142 ?_
              refine lv_iadd hx hb d_R_background_143 ?_
              refine lv_iload hx hb d_R_background_144 (lv_at hl 5 rfl) ?_
              refine lv_bipush (v := 8) hx hb d_R_background_146 (by decide) ?_
              refine lv_idiv hx hb d_R_background_148 (by decide) ?_
              refine lv_iadd hx hb d_R_background_149 ?_
              refine lv_ldc (v := (32768 : Int32)) hx hb hC.1.2.2.2.1 (hC.1.2.2.2.2 _ q_52) d_R_background_150 ?_
              refine lv_isub hx hb d_R_background_152 ?_
              obtain ⟨hin, hk⟩ := hk
              refine r_ld_3 hC hw hin rfl d_R_background_153 ?_
              refine lv_topi (fun x280 e_x280 => ?_)
              have hk := hk x280 e_x280
              refine lv_istore (lv' := [(7, .int x280), (6, .int x279), (0, .ref (ad 0)), (1, .int a1), (2, .int a2), (3, .int x144), (4, .int x216), (5, .int x252)]) hx hb d_R_background_154 hl (by decide) rfl (fun ls hl => ?_)
              refine lv_aload_n hx hb d_R_background_156 rfl (lv_at hl 2 rfl) ?_
              refine lv_aload_n hx hb d_R_background_157 rfl (lv_at hl 2 rfl) ?_
              refine g_R_lcdc hC hw q_28 d_R_background_158 ?_
              refine lv_bipush (v := 16) hx hb d_R_background_161 (by decide) ?_
              refine lv_iand hx hb d_R_background_163 ?_
              have hj6 : ∀ (H : Heap) (locs : List Loc) (ls : Array Slot) (x284 : Int32), wp_R_background_j6 M0 x216 x252 x284 Q → Wd D (ceR ad cA) A s H locs M0 → lv_has ls 8 [(0, .ref (ad 0)), (1, .int a1), (2, .int a2), (3, .int x144), (4, .int x216), (5, .int x252), (6, .int x279), (7, .int x280)] → W p l e rm_R_background s m args below meth c H locs 0 0 QQ (F0 m 190 ls [.int x284, .ref (ad 0)]) := by
                intro H locs ls x284 hk hw hl
                unfold wp_R_background_j6 at hk
                refine lv_iconst (v := 2) hx hb d_R_background_190 (by decide) ?_
                refine lv_iload hx hb d_R_background_191 (lv_at hl 5 rfl) ?_
                refine lv_bipush (v := 7) hx hb d_R_background_193 (by decide) ?_
                refine lv_iand hx hb d_R_background_195 ?_
                refine lv_imul hx hb d_R_background_196 ?_
                refine lv_iadd hx hb d_R_background_197 ?_
                refine lv_iload hx hb d_R_background_198 (lv_at hl 4 rfl) ?_
                refine lv_bipush (v := 7) hx hb d_R_background_200 (by decide) ?_
                refine lv_iand hx hb d_R_background_202 ?_
                refine cl_Vip (j := 0) (As := [.int (x284 + ((2 : Int32) * (x252 &&& (7 : Int32)))), .int (x216 &&& (7 : Int32))]) hC hw (ct_R_dots _ _ _ _ hk) q_108 mw_R_dots rfl ⟨rfl, rfl, Nat.le_of_ble_eq_true rfl, Nat.le_of_ble_eq_true rfl⟩ rfl rfl rfl hl.1 rfl (Nat.le_of_ble_eq_true rfl) d_R_background_203 (fun H locs x285 hk hw => ?_)
                exact rt_i hQQ hx hb hr hlk hw ⟨rfl, _, rfl, hk⟩ d_R_background_206
              refine lv_if_le (tgt := 178) hx hb d_R_background_164 (by decide) (fun hc => ?_) (fun hc => ?_)
              · have hk := hk.1 hc
                refine lv_ldcw (v := (36864 : Int32)) hx hb hC.1.2.2.2.1 (hC.1.2.2.2.2 _ q_107) d_R_background_178 ?_
                refine lv_bipush (v := 16) hx hb d_R_background_181 (by decide) ?_
                refine lv_iload hx hb d_R_background_183 (lv_at hl 0 rfl) ?_
                refine cl_Sip (As := [.int x280]) hC hw (ct_R_signed _ _ _ hk) q_81 mw_R_signed rfl ⟨rfl, rfl, Nat.le_of_ble_eq_true rfl, Nat.le_of_ble_eq_true rfl⟩ rfl hl.1 rfl (Nat.le_of_ble_eq_true rfl) d_R_background_185 (fun H locs x286 hk hw => ?_)
                refine lv_imul hx hb d_R_background_188 ?_
                refine lv_iadd hx hb d_R_background_189 ?_
                exact hj6 _ _ _ _ hk hw (lv_sub hl [2, 3, 4, 5, 6, 7, 1, 0] rfl)
              · have hk := hk.2 hc
                refine lv_ldc (v := (32768 : Int32)) hx hb hC.1.2.2.2.1 (hC.1.2.2.2.2 _ q_52) d_R_background_167 ?_
                refine lv_bipush (v := 16) hx hb d_R_background_169 (by decide) ?_
                refine lv_iload hx hb d_R_background_171 (lv_at hl 0 rfl) ?_
                refine lv_imul hx hb d_R_background_173 ?_
                refine lv_iadd hx hb d_R_background_174 ?_
                refine lv_goto (tgt := 190) hx hb d_R_background_175 (by decide) ?_
                exact hj6 _ _ _ _ hk hw (lv_sub hl [2, 3, 4, 5, 6, 7, 1, 0] rfl)
            refine lv_if_le (tgt := 124) hx hb d_R_background_115 (by decide) (fun hc => ?_) (fun hc => ?_)
            · have hk := hk.1 hc
              refine lv_ldcw (v := (38912 : Int32)) hx hb hC.1.2.2.2.1 (hC.1.2.2.2.2 _ q_105) d_R_background_124 ?_
              exact hj5 _ _ _ _ hk hw (lv_sub hl [0, 1, 2, 3, 4, 5] rfl)
            · have hk := hk.2 hc
              refine lv_ldcw (v := (39936 : Int32)) hx hb hC.1.2.2.2.1 (hC.1.2.2.2.2 _ q_106) d_R_background_118 ?_
              refine lv_goto (tgt := 127) hx hb d_R_background_121 (by decide) ?_
              exact hj5 _ _ _ _ hk hw (lv_sub hl [0, 1, 2, 3, 4, 5] rfl)
          refine lv_if_eq (tgt := 112) hx hb d_R_background_104 (by decide) (fun hc => ?_) (fun hc => ?_)
          · have hk := hk.1 hc
            refine lv_bipush (v := 8) hx hb d_R_background_112 (by decide) ?_
            exact hj4 _ _ _ _ hk hw (lv_sub hl [1, 2, 3, 4, 5, 0] rfl)
          · have hk := hk.2 hc
            refine lv_bipush (v := 64) hx hb d_R_background_107 (by decide) ?_
            refine lv_goto (tgt := 114) hx hb d_R_background_109 (by decide) ?_
            exact hj4 _ _ _ _ hk hw (lv_sub hl [1, 2, 3, 4, 5, 0] rfl)
        refine lv_if_eq (tgt := 87) hx hb d_R_background_75 (by decide) (fun hc => ?_) (fun hc => ?_)
        · have hk := hk.1 hc
          refine lv_iload_n hx hb d_R_background_87 rfl (lv_at hl 3 rfl) ?_
          refine lv_aload_n hx hb d_R_background_88 rfl (lv_at hl 1 rfl) ?_
          refine g_R_scy hC hw q_30 d_R_background_89 ?_
          refine lv_iadd hx hb d_R_background_92 ?_
          refine lv_sipush (v := 255) hx hb d_R_background_93 (by decide) ?_
          refine lv_iand hx hb d_R_background_96 ?_
          exact hj3 _ _ _ _ hk hw (lv_sub hl [1, 2, 3, 4, 0] rfl)
        · have hk := hk.2 hc
          refine lv_iload_n hx hb d_R_background_78 rfl (lv_at hl 3 rfl) ?_
          refine lv_aload_n hx hb d_R_background_79 rfl (lv_at hl 1 rfl) ?_
          refine g_R_wy hC hw q_38 d_R_background_80 ?_
          refine lv_isub hx hb d_R_background_83 ?_
          refine lv_goto (tgt := 97) hx hb d_R_background_84 (by decide) ?_
          exact hj3 _ _ _ _ hk hw (lv_sub hl [1, 2, 3, 4, 0] rfl)
      refine lv_if_eq (tgt := 62) hx hb d_R_background_47 (by decide) (fun hc => ?_) (fun hc => ?_)
      · have hk := hk.1 hc
        refine lv_iload_n hx hb d_R_background_62 rfl (lv_at hl 2 rfl) ?_
        refine lv_aload_n hx hb d_R_background_63 rfl (lv_at hl 1 rfl) ?_
        refine g_R_scx hC hw q_31 d_R_background_64 ?_
        refine lv_iadd hx hb d_R_background_67 ?_
        refine lv_sipush (v := 255) hx hb d_R_background_68 (by decide) ?_
        refine lv_iand hx hb d_R_background_71 ?_
        exact hj2 _ _ _ _ hk hw (lv_sub hl [1, 2, 3, 0] rfl)
      · have hk := hk.2 hc
        refine lv_iload_n hx hb d_R_background_50 rfl (lv_at hl 2 rfl) ?_
        refine lv_bipush (v := 7) hx hb d_R_background_51 (by decide) ?_
        refine lv_iadd hx hb d_R_background_53 ?_
        refine lv_aload_n hx hb d_R_background_54 rfl (lv_at hl 1 rfl) ?_
        refine g_R_wx hC hw q_39 d_R_background_55 ?_
        refine lv_isub hx hb d_R_background_58 ?_
        refine lv_goto (tgt := 72) hx hb d_R_background_59 (by decide) ?_
        exact hj2 _ _ _ _ hk hw (lv_sub hl [1, 2, 3, 0] rfl)
    have hj7 : ∀ (H : Heap) (locs : List Loc) (ls : Array Slot), wp_R_background_j7 M0 a1 a2 Q → Wd D (ceR ad cA) A s H locs M0 → lv_has ls 8 [(0, .ref (ad 0)), (1, .int a1), (2, .int a2)] → W p l e rm_R_background s m args below meth c H locs 0 0 QQ (F0 m 44 ls []) := by
      intro H locs ls  hk hw hl
      unfold wp_R_background_j7 at hk
      refine lv_iconst (v := 0) hx hb d_R_background_44 (by decide) ?_
      exact hj1 _ _ _ _ hk hw (lv_sub hl [0, 1, 2] rfl)
    refine lv_if_le (tgt := 44) hx hb d_R_background_18 (by decide) (fun hc => ?_) (fun hc => ?_)
    · have hk := hk.1 hc
      exact hj7 _ _ _  hk hw (lv_sub hl [0, 1, 2] rfl)
    · have hk := hk.2 hc
      refine lv_iload_n hx hb d_R_background_21 rfl (lv_at hl 2 rfl) ?_
      refine lv_aload_n hx hb d_R_background_22 rfl (lv_at hl 0 rfl) ?_
      refine g_R_wy hC hw q_38 d_R_background_23 ?_
      refine lv_icmp_lt (tgt := 44) hx hb d_R_background_26 (by decide) (fun hc => ?_) (fun hc => ?_)
      · have hk := hk.1 hc
        exact hj7 _ _ _  hk hw (lv_sub hl [0, 1, 2] rfl)
      · have hk := hk.2 hc
        refine lv_iload_n hx hb d_R_background_29 rfl (lv_at hl 1 rfl) ?_
        refine lv_bipush (v := 7) hx hb d_R_background_30 (by decide) ?_
        refine lv_iadd hx hb d_R_background_32 ?_
        refine lv_aload_n hx hb d_R_background_33 rfl (lv_at hl 0 rfl) ?_
        refine g_R_wx hC hw q_39 d_R_background_34 ?_
        refine lv_icmp_lt (tgt := 44) hx hb d_R_background_37 (by decide) (fun hc => ?_) (fun hc => ?_)
        · have hk := hk.1 hc
          exact hj7 _ _ _  hk hw (lv_sub hl [0, 1, 2] rfl)
        · have hk := hk.2 hc
          refine lv_iconst (v := 1) hx hb d_R_background_40 (by decide) ?_
          refine lv_goto (tgt := 45) hx hb d_R_background_41 (by decide) ?_
          exact hj1 _ _ _ _ hk hw (lv_sub hl [0, 1, 2] rfl)
  · have hk := hk.2 hc
    refine lv_iconst (v := 0) hx hb d_R_background_9 (by decide) ?_
    exact rt_i hQQ hx hb hr hlk hw ⟨rfl, _, rfl, hk⟩ d_R_background_10
