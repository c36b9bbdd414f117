set_option maxHeartbeats 4000000 in
set_option maxRecDepth 100000 in
theorem ct_R_keyBits {l : Launch} {D : va_G} {cA : ClassId} {ad tb : Nat → Nat} (M0 : Mem) (Q : Int32 → Prop) (hk : wp_R_keyBits M0 Q) : Ct l y_R_keyBits ws_R_keyBits rm_R_keyBits D (ceR ad cA) cA tb [.ref (ad 0)] M0 (QIp M0 Q) := by
  refine Ct.of (own := "TileConsoleModel") (cc := b_R_keyBits) (maxL := 3) (ret := (some .int)) ceR_fix (by decide) rfl rfl (Nat.le_of_ble_eq_true rfl) ?_
  intro p e s m args below meth c A QQ ls H locs hQQ hC hr hlk hw hl
  have hx := hC.1.1
  have hb := hC.1.2.1
  unfold wp_R_keyBits at hk
  have hl : lv_has ls 3 [(0, .ref (ad 0))] := hl
  refine lv_bipush (v := 15) hx hb d_R_keyBits_0 (by decide) ?_
  refine lv_istore_n (lv' := [(1, .int (15 : Int32)), (0, .ref (ad 0))]) hx hb d_R_keyBits_2 rfl hl (by decide) rfl (fun ls hl => ?_)
  refine lv_iconst (v := 0) hx hb d_R_keyBits_3 (by decide) ?_
  refine lv_istore_n (lv' := [(2, .int (0 : Int32)), (1, .int (15 : Int32)), (0, .ref (ad 0))]) hx hb d_R_keyBits_4 rfl hl (by decide) rfl (fun ls hl => ?_)
  have hl1 : ∀ (n : Nat) (H : Heap) (locs : List Loc) (ls : Array Slot) (x1 : Int32) (x2 : Int32), wp_R_keyBits_l1 M0 Q n x1 x2 → Wd D (ceR ad cA) A s H locs M0 → lv_has ls 3 [(0, .ref (ad 0)), (1, .int x1), (2, .int x2)] → W p l e rm_R_keyBits s m args below meth c H locs 0 0 QQ (F0 m 5 ls []) := by
    intro n
    induction n with
    | zero => intro H locs ls x1 x2 hk; exact False.elim hk
    | succ n1 ih1 =>
      intro H locs ls x1 x2 hk hw hl
      refine lv_iload_n hx hb d_R_keyBits_5 rfl (lv_at hl 2 rfl) ?_
      refine lv_iconst (v := 4) hx hb d_R_keyBits_6 (by decide) ?_
      refine lv_icmp_ge (tgt := 70) hx hb d_R_keyBits_7 (by decide) (fun hc => ?_) (fun hc => ?_)
      · have hk := hk.1 hc
        refine lv_sipush (v := 192) hx hb d_R_keyBits_70 (by decide) ?_
        refine lv_aload_n hx hb d_R_keyBits_73 rfl (lv_at hl 0 rfl) ?_
        refine g_R_keysAsked hC hw q_21 d_R_keyBits_74 ?_
        refine lv_ior hx hb d_R_keyBits_77 ?_
        refine lv_iload_n hx hb d_R_keyBits_78 rfl (lv_at hl 1 rfl) ?_
        refine lv_ior hx hb d_R_keyBits_79 ?_
        exact rt_i hQQ hx hb hr hlk hw ⟨rfl, _, rfl, hk⟩ d_R_keyBits_80
      · have hk := hk.2 hc
        refine lv_aload_n hx hb d_R_keyBits_10 rfl (lv_at hl 0 rfl) ?_
        refine g_R_keysAsked hC hw q_21 d_R_keyBits_11 ?_
        refine lv_bipush (v := 16) hx hb d_R_keyBits_14 (by decide) ?_
        refine lv_iand hx hb d_R_keyBits_16 ?_
        have hj1 : ∀ (H : Heap) (locs : List Loc) (ls : Array Slot) (x6 : Int32), wp_R_keyBits_j1 x2 (wp_R_keyBits_l1 M0 Q n1) x6 Q → Wd D (ceR ad cA) A s H locs M0 → lv_has ls 3 [(0, .ref (ad 0)), (1, .int x6), (2, .int x2)] → W p l e rm_R_keyBits s m args below meth c H locs 0 0 QQ (F0 m 64 ls []) := by
          intro H locs ls x6 hk hw hl
          unfold wp_R_keyBits_j1 at hk
          obtain ⟨x7, e_x7⟩ : ∃ y : Int32, y = x2 + (1 : Int32) := ⟨_, rfl⟩
          have hk := hk x7 e_x7
          refine lv_iinc (v := x7) (lv' := [(2, .int x7), (0, .ref (ad 0)), (1, .int x6)]) hx hb d_R_keyBits_64 hl (k := 2) rfl (by rw [e_x7]; rfl) (by decide) rfl (fun ls hl => ?_)
          refine lv_goto (tgt := 5) hx hb d_R_keyBits_67 (by decide) ?_
          exact ih1 _ _ _ _ _ hk hw (lv_sub hl [1, 2, 0] rfl)
        have hj2 : ∀ (H : Heap) (locs : List Loc) (ls : Array Slot), wp_R_keyBits_j2 x1 x2 (wp_R_keyBits_l1 M0 Q n1) Q → Wd D (ceR ad cA) A s H locs M0 → lv_has ls 3 [(0, .ref (ad 0)), (1, .int x1), (2, .int x2)] → W p l e rm_R_keyBits s m args below meth c H locs 0 0 QQ (F0 m 56 ls []) := by
          intro H locs ls  hk hw hl
          unfold wp_R_keyBits_j2 at hk
          refine lv_iload_n hx hb d_R_keyBits_56 rfl (lv_at hl 1 rfl) ?_
          refine lv_iconst (v := 1) hx hb d_R_keyBits_57 (by decide) ?_
          refine lv_iload_n hx hb d_R_keyBits_58 rfl (lv_at hl 2 rfl) ?_
          refine lv_ishl hx hb d_R_keyBits_59 ?_
          refine lv_iconst (v := (-1)) hx hb d_R_keyBits_60 (by decide) ?_
          refine lv_ixor hx hb d_R_keyBits_61 ?_
          refine lv_iand hx hb d_R_keyBits_62 ?_
          refine lv_topi (fun x8 e_x8 => ?_)
          have hk := hk x8 e_x8
          refine lv_istore_n (lv' := [(1, .int x8), (0, .ref (ad 0)), (2, .int x2)]) hx hb d_R_keyBits_63 rfl hl (by decide) rfl (fun ls hl => ?_)
          exact hj1 _ _ _ _ hk hw (lv_sub hl [1, 0, 2] rfl)
        have hj3 : ∀ (H : Heap) (locs : List Loc) (ls : Array Slot), wp_R_keyBits_j3 M0 x1 x2 (wp_R_keyBits_l1 M0 Q n1) Q → Wd D (ceR ad cA) A s H locs M0 → lv_has ls 3 [(0, .ref (ad 0)), (1, .int x1), (2, .int x2)] → W p l e rm_R_keyBits s m args below meth c H locs 0 0 QQ (F0 m 32 ls []) := by
          intro H locs ls  hk hw hl
          unfold wp_R_keyBits_j3 at hk
          refine lv_aload_n hx hb d_R_keyBits_32 rfl (lv_at hl 0 rfl) ?_
          refine g_R_keysAsked hC hw q_21 d_R_keyBits_33 ?_
          refine lv_bipush (v := 32) hx hb d_R_keyBits_36 (by decide) ?_
          refine lv_iand hx hb d_R_keyBits_38 ?_
          refine lv_if_ne (tgt := 64) hx hb d_R_keyBits_39 (by decide) (fun hc => ?_) (fun hc => ?_)
          · have hk := hk.1 hc
            exact hj1 _ _ _ _ hk hw (lv_sub hl [0, 1, 2] rfl)
          · have hk := hk.2 hc
            refine lv_aload_n hx hb d_R_keyBits_42 rfl (lv_at hl 0 rfl) ?_
            refine g_R_keysDown hC hw q_49 d_R_keyBits_43 ?_
            refine lv_iload_n hx hb d_R_keyBits_46 rfl (lv_at hl 2 rfl) ?_
            refine lv_iconst (v := 4) hx hb d_R_keyBits_47 (by decide) ?_
            refine lv_iadd hx hb d_R_keyBits_48 ?_
            refine lv_ishr hx hb d_R_keyBits_49 ?_
            refine lv_iconst (v := 1) hx hb d_R_keyBits_50 (by decide) ?_
            refine lv_iand hx hb d_R_keyBits_51 ?_
            refine lv_iconst (v := 1) hx hb d_R_keyBits_52 (by decide) ?_
            refine lv_icmp_ne (tgt := 64) hx hb d_R_keyBits_53 (by decide) (fun hc => ?_) (fun hc => ?_)
            · have hk := hk.1 hc
              exact hj1 _ _ _ _ hk hw (lv_sub hl [0, 1, 2] rfl)
            · have hk := hk.2 hc
              exact hj2 _ _ _  hk hw (lv_sub hl [0, 1, 2] rfl)
        refine lv_if_ne (tgt := 32) hx hb d_R_keyBits_17 (by decide) (fun hc => ?_) (fun hc => ?_)
        · have hk := hk.1 hc
          exact hj3 _ _ _  hk hw (lv_sub hl [0, 1, 2] rfl)
        · have hk := hk.2 hc
          refine lv_aload_n hx hb d_R_keyBits_20 rfl (lv_at hl 0 rfl) ?_
          refine g_R_keysDown hC hw q_49 d_R_keyBits_21 ?_
          refine lv_iload_n hx hb d_R_keyBits_24 rfl (lv_at hl 2 rfl) ?_
          refine lv_ishr hx hb d_R_keyBits_25 ?_
          refine lv_iconst (v := 1) hx hb d_R_keyBits_26 (by decide) ?_
          refine lv_iand hx hb d_R_keyBits_27 ?_
          refine lv_iconst (v := 1) hx hb d_R_keyBits_28 (by decide) ?_
          refine lv_icmp_eq (tgt := 56) hx hb d_R_keyBits_29 (by decide) (fun hc => ?_) (fun hc => ?_)
          · have hk := hk.1 hc
            exact hj2 _ _ _  hk hw (lv_sub hl [0, 1, 2] rfl)
          · have hk := hk.2 hc
            exact hj3 _ _ _  hk hw (lv_sub hl [0, 1, 2] rfl)
  obtain ⟨n, hk⟩ := hk
  exact hl1 n _ _ _ _ _ hk hw (lv_sub hl [2, 1, 0] rfl)
set_option maxHeartbeats 4000000 in
set_option maxRecDepth 100000 in
theorem ct_R_port {l : Launch} {D : va_G} {cA : ClassId} {ad tb : Nat → Nat} (M0 : Mem) (a1 : Int32) (Q : Int32 → Prop) (hk : wp_R_port M0 a1 Q) : Ct l y_R_port ws_R_port rm_R_port D (ceR ad cA) cA tb [.ref (ad 0), .int a1] M0 (QIp M0 Q) := by
  refine Ct.of (own := "TileConsoleModel") (cc := b_R_port) (maxL := 2) (ret := (some .int)) ceR_fix (by decide) rfl rfl (Nat.le_of_ble_eq_true rfl) ?_
  intro p e s m args below meth c A QQ ls H locs hQQ hC hr hlk hw hl
  have hx := hC.1.1
  have hb := hC.1.2.1
  unfold wp_R_port at hk
  have hl : lv_has ls 2 [(0, .ref (ad 0)), (1, .int a1)] := hl
  refine lv_iload_n hx hb d_R_port_0 rfl (lv_at hl 1 rfl) ?_
  by_cases hs1 : (a1 = (65280 : Int32))
  · have hk := hk.1 hs1
    refine lv_lookup (x := a1) (off := 163) (tgt := 164) hx hb d_R_port_1 (by decide) (by rw [hs1]; decide) (by decide) ?_
    refine lv_aload_n hx hb d_R_port_164 rfl (lv_at hl 0 rfl) ?_
    refine cl_Vip (j := 0) (As := []) hC hw (ct_R_keyBits _  _ hk) q_50 mw_R_keyBits rfl ⟨rfl, rfl, Nat.le_of_ble_eq_true rfl, Nat.le_of_ble_eq_true rfl⟩ rfl rfl rfl hl.1 rfl (Nat.le_of_ble_eq_true rfl) d_R_port_165 (fun H locs x1 hk hw => ?_)
    exact rt_i hQQ hx hb hr hlk hw ⟨rfl, _, rfl, hk⟩ d_R_port_168
  · have hk := hk.2 hs1
    by_cases hs2 : (a1 = (65284 : Int32))
    · have hk := hk.1 hs2
      refine lv_lookup (x := a1) (off := 168) (tgt := 169) hx hb d_R_port_1 (by decide) (by rw [hs2]; decide) (by decide) ?_
      refine lv_aload_n hx hb d_R_port_169 rfl (lv_at hl 0 rfl) ?_
      refine g_R_s hC hw q_22 d_R_port_170 ?_
      refine lv_bipush (v := 6) hx hb d_R_port_173 (by decide) ?_
      refine lv_ishr hx hb d_R_port_175 ?_
      refine lv_sipush (v := 255) hx hb d_R_port_176 (by decide) ?_
      refine lv_iand hx hb d_R_port_179 ?_
      exact rt_i hQQ hx hb hr hlk hw ⟨rfl, _, rfl, hk⟩ d_R_port_180
    · have hk := hk.2 hs2
      by_cases hs3 : (a1 = (65285 : Int32))
      · have hk := hk.1 hs3
        refine lv_lookup (x := a1) (off := 180) (tgt := 181) hx hb d_R_port_1 (by decide) (by rw [hs3]; decide) (by decide) ?_
        refine lv_aload_n hx hb d_R_port_181 rfl (lv_at hl 0 rfl) ?_
        refine g_R_tima hC hw q_23 d_R_port_182 ?_
        exact rt_i hQQ hx hb hr hlk hw ⟨rfl, _, rfl, hk⟩ d_R_port_185
      · have hk := hk.2 hs3
        by_cases hs4 : (a1 = (65286 : Int32))
        · have hk := hk.1 hs4
          refine lv_lookup (x := a1) (off := 185) (tgt := 186) hx hb d_R_port_1 (by decide) (by rw [hs4]; decide) (by decide) ?_
          refine lv_aload_n hx hb d_R_port_186 rfl (lv_at hl 0 rfl) ?_
          refine g_R_tma hC hw q_24 d_R_port_187 ?_
          exact rt_i hQQ hx hb hr hlk hw ⟨rfl, _, rfl, hk⟩ d_R_port_190
        · have hk := hk.2 hs4
          by_cases hs5 : (a1 = (65287 : Int32))
          · have hk := hk.1 hs5
            refine lv_lookup (x := a1) (off := 190) (tgt := 191) hx hb d_R_port_1 (by decide) (by rw [hs5]; decide) (by decide) ?_
            refine lv_aload_n hx hb d_R_port_191 rfl (lv_at hl 0 rfl) ?_
            refine g_R_tac hC hw q_25 d_R_port_192 ?_
            refine lv_sipush (v := 248) hx hb d_R_port_195 (by decide) ?_
            refine lv_ior hx hb d_R_port_198 ?_
            exact rt_i hQQ hx hb hr hlk hw ⟨rfl, _, rfl, hk⟩ d_R_port_199
          · have hk := hk.2 hs5
            by_cases hs6 : (a1 = (65295 : Int32))
            · have hk := hk.1 hs6
              refine lv_lookup (x := a1) (off := 199) (tgt := 200) hx hb d_R_port_1 (by decide) (by rw [hs6]; decide) (by decide) ?_
              refine lv_aload_n hx hb d_R_port_200 rfl (lv_at hl 0 rfl) ?_
              refine g_R_flags hC hw q_26 d_R_port_201 ?_
              refine lv_sipush (v := 224) hx hb d_R_port_204 (by decide) ?_
              refine lv_ior hx hb d_R_port_207 ?_
              exact rt_i hQQ hx hb hr hlk hw ⟨rfl, _, rfl, hk⟩ d_R_port_208
            · have hk := hk.2 hs6
              by_cases hs7 : (a1 = (65344 : Int32))
              · have hk := hk.1 hs7
                refine lv_lookup (x := a1) (off := 208) (tgt := 209) hx hb d_R_port_1 (by decide) (by rw [hs7]; decide) (by decide) ?_
                refine lv_aload_n hx hb d_R_port_209 rfl (lv_at hl 0 rfl) ?_
                refine g_R_lcdc hC hw q_28 d_R_port_210 ?_
                exact rt_i hQQ hx hb hr hlk hw ⟨rfl, _, rfl, hk⟩ d_R_port_213
              · have hk := hk.2 hs7
                by_cases hs8 : (a1 = (65345 : Int32))
                · have hk := hk.1 hs8
                  refine lv_lookup (x := a1) (off := 213) (tgt := 214) hx hb d_R_port_1 (by decide) (by rw [hs8]; decide) (by decide) ?_
                  refine lv_sipush (v := 128) hx hb d_R_port_214 (by decide) ?_
                  refine lv_aload_n hx hb d_R_port_217 rfl (lv_at hl 0 rfl) ?_
                  refine g_R_stat hC hw q_29 d_R_port_218 ?_
                  refine lv_ior hx hb d_R_port_221 ?_
                  refine lv_aload_n hx hb d_R_port_222 rfl (lv_at hl 0 rfl) ?_
                  refine g_R_ly hC hw q_32 d_R_port_223 ?_
                  refine lv_aload_n hx hb d_R_port_226 rfl (lv_at hl 0 rfl) ?_
                  refine g_R_lyc hC hw q_33 d_R_port_227 ?_
                  have hj1 : ∀ (H : Heap) (locs : List Loc) (ls : Array Slot) (x4 : Int32), wp_R_port_j1 M0 x4 Q → Wd D (ceR ad cA) A s H locs M0 → lv_has ls 2 [(0, .ref (ad 0)), (1, .int a1)] → W p l e rm_R_port s m args below meth c H locs 0 0 QQ (F0 m 238 ls [.int x4, .int ((128 : Int32) ||| (M0 0 34))]) := by
                    intro H locs ls x4 hk hw hl
                    unfold wp_R_port_j1 at hk
                    refine lv_ior hx hb d_R_port_238 ?_
                    refine lv_aload_n hx hb d_R_port_239 rfl (lv_at hl 0 rfl) ?_
                    refine cl_Vip (j := 0) (As := []) hC hw (ct_R_state _  _ hk) q_51 mw_R_state rfl ⟨rfl, rfl, Nat.le_of_ble_eq_true rfl, Nat.le_of_ble_eq_true rfl⟩ rfl rfl rfl hl.1 rfl (Nat.le_of_ble_eq_true rfl) d_R_port_240 (fun H locs x5 hk hw => ?_)
                    refine lv_ior hx hb d_R_port_243 ?_
                    exact rt_i hQQ hx hb hr hlk hw ⟨rfl, _, rfl, hk⟩ d_R_port_244
                  refine lv_icmp_ne (tgt := 237) hx hb d_R_port_230 (by decide) (fun hc => ?_) (fun hc => ?_)
                  · have hk := hk.1 hc
                    refine lv_iconst (v := 0) hx hb d_R_port_237 (by decide) ?_
                    exact hj1 _ _ _ _ hk hw (lv_sub hl [0, 1] rfl)
                  · have hk := hk.2 hc
                    refine lv_iconst (v := 4) hx hb d_R_port_233 (by decide) ?_
                    refine lv_goto (tgt := 238) hx hb d_R_port_234 (by decide) ?_
                    exact hj1 _ _ _ _ hk hw (lv_sub hl [0, 1] rfl)
                · have hk := hk.2 hs8
                  by_cases hs9 : (a1 = (65346 : Int32))
                  · have hk := hk.1 hs9
                    refine lv_lookup (x := a1) (off := 244) (tgt := 245) hx hb d_R_port_1 (by decide) (by rw [hs9]; decide) (by decide) ?_
                    refine lv_aload_n hx hb d_R_port_245 rfl (lv_at hl 0 rfl) ?_
                    refine g_R_scy hC hw q_30 d_R_port_246 ?_
                    exact rt_i hQQ hx hb hr hlk hw ⟨rfl, _, rfl, hk⟩ d_R_port_249
                  · have hk := hk.2 hs9
                    by_cases hs10 : (a1 = (65347 : Int32))
                    · have hk := hk.1 hs10
                      refine lv_lookup (x := a1) (off := 249) (tgt := 250) hx hb d_R_port_1 (by decide) (by rw [hs10]; decide) (by decide) ?_
                      refine lv_aload_n hx hb d_R_port_250 rfl (lv_at hl 0 rfl) ?_
                      refine g_R_scx hC hw q_31 d_R_port_251 ?_
                      exact rt_i hQQ hx hb hr hlk hw ⟨rfl, _, rfl, hk⟩ d_R_port_254
                    · have hk := hk.2 hs10
                      by_cases hs11 : (a1 = (65348 : Int32))
                      · have hk := hk.1 hs11
                        refine lv_lookup (x := a1) (off := 254) (tgt := 255) hx hb d_R_port_1 (by decide) (by rw [hs11]; decide) (by decide) ?_
                        refine lv_aload_n hx hb d_R_port_255 rfl (lv_at hl 0 rfl) ?_
                        refine g_R_ly hC hw q_32 d_R_port_256 ?_
                        exact rt_i hQQ hx hb hr hlk hw ⟨rfl, _, rfl, hk⟩ d_R_port_259
                      · have hk := hk.2 hs11
                        by_cases hs12 : (a1 = (65349 : Int32))
                        · have hk := hk.1 hs12
                          refine lv_lookup (x := a1) (off := 259) (tgt := 260) hx hb d_R_port_1 (by decide) (by rw [hs12]; decide) (by decide) ?_
                          refine lv_aload_n hx hb d_R_port_260 rfl (lv_at hl 0 rfl) ?_
                          refine g_R_lyc hC hw q_33 d_R_port_261 ?_
                          exact rt_i hQQ hx hb hr hlk hw ⟨rfl, _, rfl, hk⟩ d_R_port_264
                        · have hk := hk.2 hs12
                          by_cases hs13 : (a1 = (65350 : Int32))
                          · have hk := hk.1 hs13
                            refine lv_lookup (x := a1) (off := 264) (tgt := 265) hx hb d_R_port_1 (by decide) (by rw [hs13]; decide) (by decide) ?_
                            refine lv_aload_n hx hb d_R_port_265 rfl (lv_at hl 0 rfl) ?_
                            refine g_R_dma hC hw q_34 d_R_port_266 ?_
                            exact rt_i hQQ hx hb hr hlk hw ⟨rfl, _, rfl, hk⟩ d_R_port_269
                          · have hk := hk.2 hs13
                            by_cases hs14 : (a1 = (65351 : Int32))
                            · have hk := hk.1 hs14
                              refine lv_lookup (x := a1) (off := 269) (tgt := 270) hx hb d_R_port_1 (by decide) (by rw [hs14]; decide) (by decide) ?_
                              refine lv_aload_n hx hb d_R_port_270 rfl (lv_at hl 0 rfl) ?_
                              refine g_R_bgp hC hw q_35 d_R_port_271 ?_
                              exact rt_i hQQ hx hb hr hlk hw ⟨rfl, _, rfl, hk⟩ d_R_port_274
                            · have hk := hk.2 hs14
                              by_cases hs15 : (a1 = (65352 : Int32))
                              · have hk := hk.1 hs15
                                refine lv_lookup (x := a1) (off := 274) (tgt := 275) hx hb d_R_port_1 (by decide) (by rw [hs15]; decide) (by decide) ?_
                                refine lv_aload_n hx hb d_R_port_275 rfl (lv_at hl 0 rfl) ?_
                                refine g_R_obp0 hC hw q_36 d_R_port_276 ?_
                                exact rt_i hQQ hx hb hr hlk hw ⟨rfl, _, rfl, hk⟩ d_R_port_279
                              · have hk := hk.2 hs15
                                by_cases hs16 : (a1 = (65353 : Int32))
                                · have hk := hk.1 hs16
                                  refine lv_lookup (x := a1) (off := 279) (tgt := 280) hx hb d_R_port_1 (by decide) (by rw [hs16]; decide) (by decide) ?_
                                  refine lv_aload_n hx hb d_R_port_280 rfl (lv_at hl 0 rfl) ?_
                                  refine g_R_obp1 hC hw q_37 d_R_port_281 ?_
                                  exact rt_i hQQ hx hb hr hlk hw ⟨rfl, _, rfl, hk⟩ d_R_port_284
                                · have hk := hk.2 hs16
                                  by_cases hs17 : (a1 = (65354 : Int32))
                                  · have hk := hk.1 hs17
                                    refine lv_lookup (x := a1) (off := 284) (tgt := 285) hx hb d_R_port_1 (by decide) (by rw [hs17]; decide) (by decide) ?_
                                    refine lv_aload_n hx hb d_R_port_285 rfl (lv_at hl 0 rfl) ?_
                                    refine g_R_wy hC hw q_38 d_R_port_286 ?_
                                    exact rt_i hQQ hx hb hr hlk hw ⟨rfl, _, rfl, hk⟩ d_R_port_289
                                  · have hk := hk.2 hs17
                                    by_cases hs18 : (a1 = (65355 : Int32))
                                    · have hk := hk.1 hs18
                                      refine lv_lookup (x := a1) (off := 289) (tgt := 290) hx hb d_R_port_1 (by decide) (by rw [hs18]; decide) (by decide) ?_
                                      refine lv_aload_n hx hb d_R_port_290 rfl (lv_at hl 0 rfl) ?_
                                      refine g_R_wx hC hw q_39 d_R_port_291 ?_
                                      exact rt_i hQQ hx hb hr hlk hw ⟨rfl, _, rfl, hk⟩ d_R_port_294
                                    · have hk := hk.2 hs18
                                      by_cases hs19 : (a1 = (65535 : Int32))
                                      · have hk := hk.1 hs19
                                        refine lv_lookup (x := a1) (off := 294) (tgt := 295) hx hb d_R_port_1 (by decide) (by rw [hs19]; decide) (by decide) ?_
                                        refine lv_aload_n hx hb d_R_port_295 rfl (lv_at hl 0 rfl) ?_
                                        refine g_R_enabled hC hw q_27 d_R_port_296 ?_
                                        exact rt_i hQQ hx hb hr hlk hw ⟨rfl, _, rfl, hk⟩ d_R_port_299
                                      · have hk := hk.2 hs19
                                        refine lv_lookup (x := a1) (off := 299) (tgt := 300) hx hb d_R_port_1 (by decide) (by rw [lv_osw hs1 (by decide), lv_osw hs2 (by decide), lv_osw hs3 (by decide), lv_osw hs4 (by decide), lv_osw hs5 (by decide), lv_osw hs6 (by decide), lv_osw hs7 (by decide), lv_osw hs8 (by decide), lv_osw hs9 (by decide), lv_osw hs10 (by decide), lv_osw hs11 (by decide), lv_osw hs12 (by decide), lv_osw hs13 (by decide), lv_osw hs14 (by decide), lv_osw hs15 (by decide), lv_osw hs16 (by decide), lv_osw hs17 (by decide), lv_osw hs18 (by decide), lv_osw hs19 (by decide)]; rfl) (by decide) ?_
                                        refine lv_sipush (v := 255) hx hb d_R_port_300 (by decide) ?_
                                        exact rt_i hQQ hx hb hr hlk hw ⟨rfl, _, rfl, hk⟩ d_R_port_303
set_option maxHeartbeats 4000000 in
set_option maxRecDepth 100000 in
theorem ct_R_get {l : Launch} {D : va_G} {cA : ClassId} {ad tb : Nat → Nat} (M0 : Mem) (a1 : Int32) (Q : Int32 → Prop) (hk : wp_R_get M0 a1 Q) : Ct l y_R_get ws_R_get rm_R_get D (ceR ad cA) cA tb [.ref (ad 0), .int a1] M0 (QIp M0 Q) := by
  refine Ct.of (own := "TileConsoleModel") (cc := b_R_get) (maxL := 2) (ret := (some .int)) ceR_fix (by decide) rfl rfl (Nat.le_of_ble_eq_true rfl) ?_
  intro p e s m args below meth c A QQ ls H locs hQQ hC hr hlk hw hl
  have hx := hC.1.1
  have hb := hC.1.2.1
  unfold wp_R_get at hk
  have hl : lv_has ls 2 [(0, .ref (ad 0)), (1, .int a1)] := hl
  refine lv_iload_n hx hb d_R_get_0 rfl (lv_at hl 1 rfl) ?_
  refine lv_sipush (v := 16384) hx hb d_R_get_1 (by decide) ?_
  refine lv_icmp_ge (tgt := 18) hx hb d_R_get_4 (by decide) (fun hc => ?_) (fun hc => ?_)
  · have hk := hk.1 hc
    refine lv_iload_n hx hb d_R_get_18 rfl (lv_at hl 1 rfl) ?_
    refine lv_ldc (v := (32768 : Int32)) hx hb hC.1.2.2.2.1 (hC.1.2.2.2.2 _ q_52) d_R_get_19 ?_
    refine lv_icmp_ge (tgt := 44) hx hb d_R_get_21 (by decide) (fun hc => ?_) (fun hc => ?_)
    · have hk := hk.1 hc
      refine lv_iload_n hx hb d_R_get_44 rfl (lv_at hl 1 rfl) ?_
      refine lv_ldc (v := (40960 : Int32)) hx hb hC.1.2.2.2.1 (hC.1.2.2.2.2 _ q_53) d_R_get_45 ?_
      refine lv_icmp_ge (tgt := 60) hx hb d_R_get_47 (by decide) (fun hc => ?_) (fun hc => ?_)
      · have hk := hk.1 hc
        refine lv_iload_n hx hb d_R_get_60 rfl (lv_at hl 1 rfl) ?_
        refine lv_ldc (v := (49152 : Int32)) hx hb hC.1.2.2.2.1 (hC.1.2.2.2.2 _ q_54) d_R_get_61 ?_
        refine lv_icmp_ge (tgt := 115) hx hb d_R_get_63 (by decide) (fun hc => ?_) (fun hc => ?_)
        · have hk := hk.1 hc
          refine lv_iload_n hx hb d_R_get_115 rfl (lv_at hl 1 rfl) ?_
          refine lv_ldc (v := (65024 : Int32)) hx hb hC.1.2.2.2.1 (hC.1.2.2.2.2 _ q_55) d_R_get_116 ?_
          refine lv_icmp_ge (tgt := 132) hx hb d_R_get_118 (by decide) (fun hc => ?_) (fun hc => ?_)
          · have hk := hk.1 hc
            refine lv_iload_n hx hb d_R_get_132 rfl (lv_at hl 1 rfl) ?_
            refine lv_ldc (v := (65184 : Int32)) hx hb hC.1.2.2.2.1 (hC.1.2.2.2.2 _ q_56) d_R_get_133 ?_
            refine lv_icmp_ge (tgt := 148) hx hb d_R_get_135 (by decide) (fun hc => ?_) (fun hc => ?_)
            · have hk := hk.1 hc
              refine lv_iload_n hx hb d_R_get_148 rfl (lv_at hl 1 rfl) ?_
              refine lv_ldc (v := (65280 : Int32)) hx hb hC.1.2.2.2.1 (hC.1.2.2.2.2 _ q_57) d_R_get_149 ?_
              refine lv_icmp_ge (tgt := 158) hx hb d_R_get_151 (by decide) (fun hc => ?_) (fun hc => ?_)
              · have hk := hk.1 hc
                refine lv_iload_n hx hb d_R_get_158 rfl (lv_at hl 1 rfl) ?_
                refine lv_ldc (v := (65408 : Int32)) hx hb hC.1.2.2.2.1 (hC.1.2.2.2.2 _ q_58) d_R_get_159 ?_
                have hj1 : ∀ (H : Heap) (locs : List Loc) (ls : Array Slot) (x3 : Int32), wp_R_get_j1 x3 Q → Wd D (ceR ad cA) A s H locs M0 → lv_has ls 2 [(0, .ref (ad 0)), (1, .int a1)] → W p l e rm_R_get s m args below meth c H locs 0 0 QQ (F0 m 187 ls [.int x3]) := by
                  intro H locs ls x3 hk hw hl
                  unfold wp_R_get_j1 at hk
                  exact rt_i hQQ hx hb hr hlk hw ⟨rfl, _, rfl, hk⟩ d_R_get_187
                have hj2 : ∀ (H : Heap) (locs : List Loc) (ls : Array Slot), wp_R_get_j2 M0 a1 Q → Wd D (ceR ad cA) A s H locs M0 → lv_has ls 2 [(0, .ref (ad 0)), (1, .int a1)] → W p l e rm_R_get s m args below meth c H locs 0 0 QQ (F0 m 170 ls []) := by
                  intro H locs ls  hk hw hl
                  unfold wp_R_get_j2 at hk
                  refine lv_aload_n hx hb d_R_get_170 rfl (lv_at hl 0 rfl) ?_
                  refine lv_iload_n hx hb d_R_get_171 rfl (lv_at hl 1 rfl) ?_
                  refine cl_Vip (j := 0) (As := [.int a1]) hC hw (ct_R_port _ _ _ hk) q_60 mw_R_port rfl ⟨rfl, rfl, Nat.le_of_ble_eq_true rfl, Nat.le_of_ble_eq_true rfl⟩ rfl rfl rfl hl.1 rfl (Nat.le_of_ble_eq_true rfl) d_R_get_172 (fun H locs x4 hk hw => ?_)
                  refine lv_goto (tgt := 187) hx hb d_R_get_175 (by decide) ?_
                  exact hj1 _ _ _ _ hk hw (lv_sub hl [0, 1] rfl)
                refine lv_icmp_lt (tgt := 170) hx hb d_R_get_161 (by decide) (fun hc => ?_) (fun hc => ?_)
                · have hk := hk.1 hc
                  exact hj2 _ _ _  hk hw (lv_sub hl [0, 1] rfl)
                · have hk := hk.2 hc
                  refine lv_iload_n hx hb d_R_get_164 rfl (lv_at hl 1 rfl) ?_
                  refine lv_ldc (v := (65535 : Int32)) hx hb hC.1.2.2.2.1 (hC.1.2.2.2.2 _ q_59) d_R_get_165 ?_
                  refine lv_icmp_ne (tgt := 178) hx hb d_R_get_167 (by decide) (fun hc => ?_) (fun hc => ?_)
                  · have hk := hk.1 hc
                    refine lv_aload_n hx hb d_R_get_178 rfl (lv_at hl 0 rfl) ?_
                    refine g_R_top hC hw q_4 d_R_get_179 ?_
                    refine lv_iload_n hx hb d_R_get_182 rfl (lv_at hl 1 rfl) ?_
                    refine lv_ldc (v := (65408 : Int32)) hx hb hC.1.2.2.2.1 (hC.1.2.2.2.2 _ q_58) d_R_get_183 ?_
                    refine lv_isub hx hb d_R_get_185 ?_
                    obtain ⟨hin, hk⟩ := hk
                    refine r_ld_6 hC hw hin rfl d_R_get_186 ?_
                    exact hj1 _ _ _ _ hk hw (lv_sub hl [0, 1] rfl)
                  · have hk := hk.2 hc
                    exact hj2 _ _ _  hk hw (lv_sub hl [0, 1] rfl)
              · have hk := hk.2 hc
                refine lv_sipush (v := 255) hx hb d_R_get_154 (by decide) ?_
                exact rt_i hQQ hx hb hr hlk hw ⟨rfl, _, rfl, hk⟩ d_R_get_157
            · have hk := hk.2 hc
              refine lv_aload_n hx hb d_R_get_138 rfl (lv_at hl 0 rfl) ?_
              refine g_R_sprites hC hw q_3 d_R_get_139 ?_
              refine lv_iload_n hx hb d_R_get_142 rfl (lv_at hl 1 rfl) ?_
              refine lv_ldc (v := (65024 : Int32)) hx hb hC.1.2.2.2.1 (hC.1.2.2.2.2 _ q_55) d_R_get_143 ?_
              refine lv_isub hx hb d_R_get_145 ?_
              obtain ⟨hin, hk⟩ := hk
              refine r_ld_5 hC hw hin rfl d_R_get_146 ?_
              exact rt_i hQQ hx hb hr hlk hw ⟨rfl, _, rfl, hk⟩ d_R_get_147
          · have hk := hk.2 hc
            refine lv_aload_n hx hb d_R_get_121 rfl (lv_at hl 0 rfl) ?_
            refine g_R_work hC hw q_2 d_R_get_122 ?_
            refine lv_iload_n hx hb d_R_get_125 rfl (lv_at hl 1 rfl) ?_
            refine lv_sipush (v := 1023) hx hb d_R_get_126 (by decide) ?_
            refine lv_iand hx hb d_R_get_129 ?_
            obtain ⟨hin, hk⟩ := hk
            refine r_ld_4 hC hw hin rfl d_R_get_130 ?_
            exact rt_i hQQ hx hb hr hlk hw ⟨rfl, _, rfl, hk⟩ d_R_get_131
        · have hk := hk.2 hc
          refine lv_aload_n hx hb d_R_get_66 rfl (lv_at hl 0 rfl) ?_
          refine cl_Vip (j := 0) (As := []) hC hw (ct_R_hasRam _  _ hk) q_61 mw_R_hasRam rfl ⟨rfl, rfl, Nat.le_of_ble_eq_true rfl, Nat.le_of_ble_eq_true rfl⟩ rfl rfl rfl hl.1 rfl (Nat.le_of_ble_eq_true rfl) d_R_get_67 (fun H locs x5 hk hw => ?_)
          have hj3 : ∀ (H : Heap) (locs : List Loc) (ls : Array Slot) (x10 : Int32), wp_R_get_j3 x10 Q → Wd D (ceR ad cA) A s H locs M0 → lv_has ls 2 [(0, .ref (ad 0)), (1, .int a1)] → W p l e rm_R_get s m args below meth c H locs 0 0 QQ (F0 m 114 ls [.int x10]) := by
            intro H locs ls x10 hk hw hl
            unfold wp_R_get_j3 at hk
            exact rt_i hQQ hx hb hr hlk hw ⟨rfl, _, rfl, hk⟩ d_R_get_114
          refine lv_if_ne (tgt := 79) hx hb d_R_get_70 (by decide) (fun hc => ?_) (fun hc => ?_)
          · have hk := hk.1 hc
            refine lv_aload_n hx hb d_R_get_79 rfl (lv_at hl 0 rfl) ?_
            refine g_R_ram hC hw q_62 d_R_get_80 ?_
            refine lv_sipush (v := 256) hx hb d_R_get_83 (by decide) ?_
            refine lv_aload_n hx hb d_R_get_86 rfl (lv_at hl 0 rfl) ?_
            refine cl_Vip (j := 0) (As := []) hC hw (ct_R_bankRam _  _ hk) q_63 mw_R_bankRam rfl ⟨rfl, rfl, Nat.le_of_ble_eq_true rfl, Nat.le_of_ble_eq_true rfl⟩ rfl rfl rfl hl.1 rfl (Nat.le_of_ble_eq_true rfl) d_R_get_87 (fun H locs x11 hk hw => ?_)
            refine lv_imul hx hb d_R_get_90 ?_
            refine lv_iload_n hx hb d_R_get_91 rfl (lv_at hl 1 rfl) ?_
            refine lv_sipush (v := 255) hx hb d_R_get_92 (by decide) ?_
            refine lv_iand hx hb d_R_get_95 ?_
            refine lv_iadd hx hb d_R_get_96 ?_
            obtain ⟨hin, hk⟩ := hk
            refine r_ld_2 hC hw hin rfl d_R_get_97 ?_
            refine lv_aload_n hx hb d_R_get_98 rfl (lv_at hl 0 rfl) ?_
            refine g_R_kind hC hw q_48 d_R_get_99 ?_
            refine lv_iconst (v := 2) hx hb d_R_get_102 (by decide) ?_
            have hj4 : ∀ (H : Heap) (locs : List Loc) (ls : Array Slot) (x13 : Int32), wp_R_get_j4 M0 a1 x11 x13 Q → Wd D (ceR ad cA) A s H locs M0 → lv_has ls 2 [(0, .ref (ad 0)), (1, .int a1)] → W p l e rm_R_get s m args below meth c H locs 0 0 QQ (F0 m 113 ls [.int x13, .int (M0 2 ((((256 : Int32) * x11) + (a1 &&& (255 : Int32)))).toNatClampNeg)]) := by
              intro H locs ls x13 hk hw hl
              unfold wp_R_get_j4 at hk
              refine lv_ior hx hb d_R_get_113 ?_
              exact hj3 _ _ _ _ hk hw (lv_sub hl [0, 1] rfl)
            refine lv_icmp_ne (tgt := 112) hx hb d_R_get_103 (by decide) (fun hc => ?_) (fun hc => ?_)
            · have hk := hk.1 hc
              refine lv_iconst (v := 0) hx hb d_R_get_112 (by decide) ?_
              exact hj4 _ _ _ _ hk hw (lv_sub hl [0, 1] rfl)
            · have hk := hk.2 hc
              refine lv_sipush (v := 240) hx hb d_R_get_106 (by decide) ?_
              refine lv_goto (tgt := 113) hx hb d_R_get_109 (by decide) ?_
              exact hj4 _ _ _ _ hk hw (lv_sub hl [0, 1] rfl)
          · have hk := hk.2 hc
            refine lv_sipush (v := 255) hx hb d_R_get_73 (by decide) ?_
            refine lv_goto (tgt := 114) hx hb d_R_get_76 (by decide) ?_
            exact hj3 _ _ _ _ hk hw (lv_sub hl [0, 1] rfl)
      · have hk := hk.2 hc
        refine lv_aload_n hx hb d_R_get_50 rfl (lv_at hl 0 rfl) ?_
        refine g_R_video hC hw q_0 d_R_get_51 ?_
        refine lv_iload_n hx hb d_R_get_54 rfl (lv_at hl 1 rfl) ?_
        refine lv_ldc (v := (32768 : Int32)) hx hb hC.1.2.2.2.1 (hC.1.2.2.2.2 _ q_52) d_R_get_55 ?_
        refine lv_isub hx hb d_R_get_57 ?_
        obtain ⟨hin, hk⟩ := hk
        refine r_ld_3 hC hw hin rfl d_R_get_58 ?_
        exact rt_i hQQ hx hb hr hlk hw ⟨rfl, _, rfl, hk⟩ d_R_get_59
    · have hk := hk.2 hc
      refine lv_aload_n hx hb d_R_get_24 rfl (lv_at hl 0 rfl) ?_
      refine g_R_rom hC hw q_64 d_R_get_25 ?_
      refine lv_sipush (v := 1024) hx hb d_R_get_28 (by decide) ?_
      refine lv_aload_n hx hb d_R_get_31 rfl (lv_at hl 0 rfl) ?_
      refine cl_Vip (j := 0) (As := []) hC hw (ct_R_bankHigh _  _ hk) q_65 mw_R_bankHigh rfl ⟨rfl, rfl, Nat.le_of_ble_eq_true rfl, Nat.le_of_ble_eq_true rfl⟩ rfl rfl rfl hl.1 rfl (Nat.le_of_ble_eq_true rfl) d_R_get_32 (fun H locs x14 hk hw => ?_)
      refine lv_imul hx hb d_R_get_35 ?_
      refine lv_iload_n hx hb d_R_get_36 rfl (lv_at hl 1 rfl) ?_
      refine lv_sipush (v := 1023) hx hb d_R_get_37 (by decide) ?_
      refine lv_iand hx hb d_R_get_40 ?_
      refine lv_iadd hx hb d_R_get_41 ?_
      obtain ⟨hin, hk⟩ := hk
      refine r_ld_1 hC hw hin rfl d_R_get_42 ?_
      exact rt_i hQQ hx hb hr hlk hw ⟨rfl, _, rfl, hk⟩ d_R_get_43
  · have hk := hk.2 hc
    refine lv_aload_n hx hb d_R_get_7 rfl (lv_at hl 0 rfl) ?_
    refine g_R_rom hC hw q_64 d_R_get_8 ?_
    refine lv_iload_n hx hb d_R_get_11 rfl (lv_at hl 1 rfl) ?_
    refine lv_sipush (v := 1023) hx hb d_R_get_12 (by decide) ?_
    refine lv_iand hx hb d_R_get_15 ?_
    obtain ⟨hin, hk⟩ := hk
    refine r_ld_1 hC hw hin rfl d_R_get_16 ?_
    exact rt_i hQQ hx hb hr hlk hw ⟨rfl, _, rfl, hk⟩ d_R_get_17
set_option maxHeartbeats 4000000 in
set_option maxRecDepth 100000 in
theorem ct_R_setPort {l : Launch} {D : va_G} {cA : ClassId} {ad tb : Nat → Nat} (M0 : Mem) (a1 : Int32) (a2 : Int32) (Q : Mem → Prop) (hk : wp_R_setPort M0 a1 a2 Q) : Ct l y_R_setPort ws_R_setPort rm_R_setPort D (ceR ad cA) cA tb [.ref (ad 0), .int a1, .int a2] M0 (QV Q) := by
  refine Ct.of (own := "TileConsoleModel") (cc := b_R_setPort) (maxL := 4) (ret := none) ceR_fix (by decide) rfl rfl (Nat.le_of_ble_eq_true rfl) ?_
  intro p e s m args below meth c A QQ ls H locs hQQ hC hr hlk hw hl
  have hx := hC.1.1
  have hb := hC.1.2.1
  unfold wp_R_setPort at hk
  have hl : lv_has ls 4 [(0, .ref (ad 0)), (1, .int a1), (2, .int a2)] := hl
  refine lv_iload_n hx hb d_R_setPort_0 rfl (lv_at hl 1 rfl) ?_
  have hj1 : ∀ (H : Heap) (locs : List Loc) (ls : Array Slot) (M27 : Mem), wp_R_setPort_j1 M27 Q → Wd D (ceR ad cA) A s H locs M27 → lv_has ls 4 [(0, .ref (ad 0)), (1, .int a1), (2, .int a2)] → W p l e rm_R_setPort s m args below meth c H locs 0 0 QQ (F0 m 365 ls []) := by
    intro H locs ls M27 hk hw hl
    unfold wp_R_setPort_j1 at hk
    exact rt_v hQQ hx hb hr hlk hw ⟨rfl, hk⟩ d_R_setPort_365
  by_cases hs1 : (a1 = (65280 : Int32))
  · have hk := hk.1 hs1
    refine lv_lookup (x := a1) (off := 155) (tgt := 156) hx hb d_R_setPort_1 (by decide) (by rw [hs1]; decide) (by decide) ?_
    refine lv_aload_n hx hb d_R_setPort_156 rfl (lv_at hl 0 rfl) ?_
    refine lv_iload_n hx hb d_R_setPort_157 rfl (lv_at hl 2 rfl) ?_
    refine lv_bipush (v := 48) hx hb d_R_setPort_158 (by decide) ?_
    refine lv_iand hx hb d_R_setPort_160 ?_
    refine p_R_keysAsked hC hw q_21 d_R_setPort_161 (fun H locs M28 e_M28 hw => ?_)
    have hk := hk M28 e_M28
    refine lv_goto (tgt := 365) hx hb d_R_setPort_164 (by decide) ?_
    exact hj1 _ _ _ _ hk hw (lv_sub hl [0, 1, 2] rfl)
  · have hk := hk.2 hs1
    by_cases hs2 : (a1 = (65284 : Int32))
    · have hk := hk.1 hs2
      refine lv_lookup (x := a1) (off := 166) (tgt := 167) hx hb d_R_setPort_1 (by decide) (by rw [hs2]; decide) (by decide) ?_
      refine lv_aload_n hx hb d_R_setPort_167 rfl (lv_at hl 0 rfl) ?_
      refine lv_iconst (v := 0) hx hb d_R_setPort_168 (by decide) ?_
      refine p_R_s hC hw q_22 d_R_setPort_169 (fun H locs M29 e_M29 hw => ?_)
      have hk := hk M29 e_M29
      refine lv_goto (tgt := 365) hx hb d_R_setPort_172 (by decide) ?_
      exact hj1 _ _ _ _ hk hw (lv_sub hl [0, 1, 2] rfl)
    · have hk := hk.2 hs2
      by_cases hs3 : (a1 = (65285 : Int32))
      · have hk := hk.1 hs3
        refine lv_lookup (x := a1) (off := 174) (tgt := 175) hx hb d_R_setPort_1 (by decide) (by rw [hs3]; decide) (by decide) ?_
        refine lv_aload_n hx hb d_R_setPort_175 rfl (lv_at hl 0 rfl) ?_
        refine lv_iload_n hx hb d_R_setPort_176 rfl (lv_at hl 2 rfl) ?_
        refine p_R_tima hC hw q_23 d_R_setPort_177 (fun H locs M30 e_M30 hw => ?_)
        have hk := hk M30 e_M30
        refine lv_goto (tgt := 365) hx hb d_R_setPort_180 (by decide) ?_
        exact hj1 _ _ _ _ hk hw (lv_sub hl [0, 1, 2] rfl)
      · have hk := hk.2 hs3
        by_cases hs4 : (a1 = (65286 : Int32))
        · have hk := hk.1 hs4
          refine lv_lookup (x := a1) (off := 182) (tgt := 183) hx hb d_R_setPort_1 (by decide) (by rw [hs4]; decide) (by decide) ?_
          refine lv_aload_n hx hb d_R_setPort_183 rfl (lv_at hl 0 rfl) ?_
          refine lv_iload_n hx hb d_R_setPort_184 rfl (lv_at hl 2 rfl) ?_
          refine p_R_tma hC hw q_24 d_R_setPort_185 (fun H locs M31 e_M31 hw => ?_)
          have hk := hk M31 e_M31
          refine lv_goto (tgt := 365) hx hb d_R_setPort_188 (by decide) ?_
          exact hj1 _ _ _ _ hk hw (lv_sub hl [0, 1, 2] rfl)
        · have hk := hk.2 hs4
          by_cases hs5 : (a1 = (65287 : Int32))
          · have hk := hk.1 hs5
            refine lv_lookup (x := a1) (off := 190) (tgt := 191) hx hb d_R_setPort_1 (by decide) (by rw [hs5]; decide) (by decide) ?_
            refine lv_aload_n hx hb d_R_setPort_191 rfl (lv_at hl 0 rfl) ?_
            refine lv_iload_n hx hb d_R_setPort_192 rfl (lv_at hl 2 rfl) ?_
            refine lv_bipush (v := 7) hx hb d_R_setPort_193 (by decide) ?_
            refine lv_iand hx hb d_R_setPort_195 ?_
            refine p_R_tac hC hw q_25 d_R_setPort_196 (fun H locs M32 e_M32 hw => ?_)
            have hk := hk M32 e_M32
            refine lv_goto (tgt := 365) hx hb d_R_setPort_199 (by decide) ?_
            exact hj1 _ _ _ _ hk hw (lv_sub hl [0, 1, 2] rfl)
          · have hk := hk.2 hs5
            by_cases hs6 : (a1 = (65295 : Int32))
            · have hk := hk.1 hs6
              refine lv_lookup (x := a1) (off := 201) (tgt := 202) hx hb d_R_setPort_1 (by decide) (by rw [hs6]; decide) (by decide) ?_
              refine lv_aload_n hx hb d_R_setPort_202 rfl (lv_at hl 0 rfl) ?_
              refine lv_iload_n hx hb d_R_setPort_203 rfl (lv_at hl 2 rfl) ?_
              refine lv_bipush (v := 31) hx hb d_R_setPort_204 (by decide) ?_
              refine lv_iand hx hb d_R_setPort_206 ?_
              refine p_R_flags hC hw q_26 d_R_setPort_207 (fun H locs M33 e_M33 hw => ?_)
              have hk := hk M33 e_M33
              refine lv_goto (tgt := 365) hx hb d_R_setPort_210 (by decide) ?_
              exact hj1 _ _ _ _ hk hw (lv_sub hl [0, 1, 2] rfl)
            · have hk := hk.2 hs6
              by_cases hs7 : (a1 = (65344 : Int32))
              · have hk := hk.1 hs7
                refine lv_lookup (x := a1) (off := 212) (tgt := 213) hx hb d_R_setPort_1 (by decide) (by rw [hs7]; decide) (by decide) ?_
                refine lv_aload_n hx hb d_R_setPort_213 rfl (lv_at hl 0 rfl) ?_
                refine lv_iload_n hx hb d_R_setPort_214 rfl (lv_at hl 2 rfl) ?_
                refine p_R_lcdc hC hw q_28 d_R_setPort_215 (fun H locs M34 e_M34 hw => ?_)
                have hk := hk M34 e_M34
                refine lv_iload_n hx hb d_R_setPort_218 rfl (lv_at hl 2 rfl) ?_
                refine lv_sipush (v := 128) hx hb d_R_setPort_219 (by decide) ?_
                refine lv_iand hx hb d_R_setPort_222 ?_
                refine lv_if_ne (tgt := 365) hx hb d_R_setPort_223 (by decide) (fun hc => ?_) (fun hc => ?_)
                · have hk := hk.1 hc
                  exact hj1 _ _ _ _ hk hw (lv_sub hl [0, 1, 2] rfl)
                · have hk := hk.2 hc
                  refine lv_aload_n hx hb d_R_setPort_226 rfl (lv_at hl 0 rfl) ?_
                  refine lv_iconst (v := 0) hx hb d_R_setPort_227 (by decide) ?_
                  refine p_R_dot hC hw q_40 d_R_setPort_228 (fun H locs M35 e_M35 hw => ?_)
                  have hk := hk M35 e_M35
                  refine lv_aload_n hx hb d_R_setPort_231 rfl (lv_at hl 0 rfl) ?_
                  refine lv_iconst (v := 0) hx hb d_R_setPort_232 (by decide) ?_
                  refine p_R_ly hC hw q_32 d_R_setPort_233 (fun H locs M36 e_M36 hw => ?_)
                  have hk := hk M36 e_M36
                  refine lv_goto (tgt := 365) hx hb d_R_setPort_236 (by decide) ?_
                  exact hj1 _ _ _ _ hk hw (lv_sub hl [0, 1, 2] rfl)
              · have hk := hk.2 hs7
                by_cases hs8 : (a1 = (65345 : Int32))
                · have hk := hk.1 hs8
                  refine lv_lookup (x := a1) (off := 238) (tgt := 239) hx hb d_R_setPort_1 (by decide) (by rw [hs8]; decide) (by decide) ?_
                  refine lv_aload_n hx hb d_R_setPort_239 rfl (lv_at hl 0 rfl) ?_
                  refine lv_iload_n hx hb d_R_setPort_240 rfl (lv_at hl 2 rfl) ?_
                  refine lv_bipush (v := 120) hx hb d_R_setPort_241 (by decide) ?_
                  refine lv_iand hx hb d_R_setPort_243 ?_
                  refine p_R_stat hC hw q_29 d_R_setPort_244 (fun H locs M37 e_M37 hw => ?_)
                  have hk := hk M37 e_M37
                  refine lv_goto (tgt := 365) hx hb d_R_setPort_247 (by decide) ?_
                  exact hj1 _ _ _ _ hk hw (lv_sub hl [0, 1, 2] rfl)
                · have hk := hk.2 hs8
                  by_cases hs9 : (a1 = (65346 : Int32))
                  · have hk := hk.1 hs9
                    refine lv_lookup (x := a1) (off := 249) (tgt := 250) hx hb d_R_setPort_1 (by decide) (by rw [hs9]; decide) (by decide) ?_
                    refine lv_aload_n hx hb d_R_setPort_250 rfl (lv_at hl 0 rfl) ?_
                    refine lv_iload_n hx hb d_R_setPort_251 rfl (lv_at hl 2 rfl) ?_
                    refine p_R_scy hC hw q_30 d_R_setPort_252 (fun H locs M38 e_M38 hw => ?_)
                    have hk := hk M38 e_M38
                    refine lv_goto (tgt := 365) hx hb d_R_setPort_255 (by decide) ?_
                    exact hj1 _ _ _ _ hk hw (lv_sub hl [0, 1, 2] rfl)
                  · have hk := hk.2 hs9
                    by_cases hs10 : (a1 = (65347 : Int32))
                    · have hk := hk.1 hs10
                      refine lv_lookup (x := a1) (off := 257) (tgt := 258) hx hb d_R_setPort_1 (by decide) (by rw [hs10]; decide) (by decide) ?_
                      refine lv_aload_n hx hb d_R_setPort_258 rfl (lv_at hl 0 rfl) ?_
                      refine lv_iload_n hx hb d_R_setPort_259 rfl (lv_at hl 2 rfl) ?_
                      refine p_R_scx hC hw q_31 d_R_setPort_260 (fun H locs M39 e_M39 hw => ?_)
                      have hk := hk M39 e_M39
                      refine lv_goto (tgt := 365) hx hb d_R_setPort_263 (by decide) ?_
                      exact hj1 _ _ _ _ hk hw (lv_sub hl [0, 1, 2] rfl)
                    · have hk := hk.2 hs10
                      by_cases hs11 : (a1 = (65349 : Int32))
                      · have hk := hk.1 hs11
                        refine lv_lookup (x := a1) (off := 265) (tgt := 266) hx hb d_R_setPort_1 (by decide) (by rw [hs11]; decide) (by decide) ?_
                        refine lv_aload_n hx hb d_R_setPort_266 rfl (lv_at hl 0 rfl) ?_
                        refine lv_iload_n hx hb d_R_setPort_267 rfl (lv_at hl 2 rfl) ?_
                        refine p_R_lyc hC hw q_33 d_R_setPort_268 (fun H locs M40 e_M40 hw => ?_)
                        have hk := hk M40 e_M40
                        refine lv_goto (tgt := 365) hx hb d_R_setPort_271 (by decide) ?_
                        exact hj1 _ _ _ _ hk hw (lv_sub hl [0, 1, 2] rfl)
                      · have hk := hk.2 hs11
                        by_cases hs12 : (a1 = (65350 : Int32))
                        · have hk := hk.1 hs12
                          refine lv_lookup (x := a1) (off := 273) (tgt := 274) hx hb d_R_setPort_1 (by decide) (by rw [hs12]; decide) (by decide) ?_
                          refine lv_aload_n hx hb d_R_setPort_274 rfl (lv_at hl 0 rfl) ?_
                          refine lv_iload_n hx hb d_R_setPort_275 rfl (lv_at hl 2 rfl) ?_
                          refine p_R_dma hC hw q_34 d_R_setPort_276 (fun H locs M41 e_M41 hw => ?_)
                          have hk := hk M41 e_M41
                          refine lv_iconst (v := 0) hx hb d_R_setPort_279 (by decide) ?_
                          refine lv_istore_n (lv' := [(3, .int (0 : Int32)), (0, .ref (ad 0)), (1, .int a1), (2, .int a2)]) hx hb d_R_setPort_280 rfl hl (by decide) rfl (fun ls hl => ?_)
                          have hl1 : ∀ (n : Nat) (H : Heap) (locs : List Loc) (ls : Array Slot) (x42 : Int32) (M43 : Mem), wp_R_setPort_l1 a2 Q n x42 M43 → Wd D (ceR ad cA) A s H locs M43 → lv_has ls 4 [(0, .ref (ad 0)), (1, .int a1), (2, .int a2), (3, .int x42)] → W p l e rm_R_setPort s m args below meth c H locs 0 0 QQ (F0 m 281 ls []) := by
                            intro n
                            induction n with
                            | zero => intro H locs ls x42 M43 hk; exact False.elim hk
                            | succ n1 ih1 =>
                              intro H locs ls x42 M43 hk hw hl
                              refine lv_iload_n hx hb d_R_setPort_281 rfl (lv_at hl 3 rfl) ?_
                              refine lv_sipush (v := 160) hx hb d_R_setPort_282 (by decide) ?_
                              refine lv_icmp_ge (tgt := 314) hx hb d_R_setPort_285 (by decide) (fun hc => ?_) (fun hc => ?_)
                              · have hk := hk.1 hc
                                refine lv_goto (tgt := 365) hx hb d_R_setPort_314 (by decide) ?_
                                exact hj1 _ _ _ _ hk hw (lv_sub hl [0, 1, 2] rfl)
                              · have hk := hk.2 hc
                                refine lv_aload_n hx hb d_R_setPort_288 rfl (lv_at hl 0 rfl) ?_
                                refine g_R_sprites hC hw q_3 d_R_setPort_289 ?_
                                refine lv_iload_n hx hb d_R_setPort_292 rfl (lv_at hl 3 rfl) ?_
                                refine lv_aload_n hx hb d_R_setPort_293 rfl (lv_at hl 0 rfl) ?_
                                refine lv_sipush (v := 256) hx hb d_R_setPort_294 (by decide) ?_
                                refine lv_iload_n hx hb d_R_setPort_297 rfl (lv_at hl 2 rfl) ?_
                                refine lv_imul hx hb d_R_setPort_298 ?_
                                refine lv_iload_n hx hb d_R_setPort_299 rfl (lv_at hl 3 rfl) ?_
                                refine lv_iadd hx hb d_R_setPort_300 ?_
                                refine lv_ldc (v := (65535 : Int32)) hx hb hC.1.2.2.2.1 (hC.1.2.2.2.2 _ q_59) d_R_setPort_301 ?_
                                refine lv_iand hx hb d_R_setPort_303 ?_
                                refine cl_Vip (j := 0) (As := [.int ((((256 : Int32) * a2) + x42) &&& (65535 : Int32))]) hC hw (ct_R_get _ _ _ hk) q_66 mw_R_get rfl ⟨rfl, rfl, Nat.le_of_ble_eq_true rfl, Nat.le_of_ble_eq_true rfl⟩ rfl rfl rfl hl.1 rfl (Nat.le_of_ble_eq_true rfl) d_R_setPort_304 (fun H locs x44 hk hw => ?_)
                                obtain ⟨hin, hk⟩ := hk
                                refine r_st_5 hC hw hin rfl d_R_setPort_307 (fun H locs M45 e_M45 hw => ?_)
                                have hk := hk M45 e_M45
                                obtain ⟨x46, e_x46⟩ : ∃ y : Int32, y = x42 + (1 : Int32) := ⟨_, rfl⟩
                                have hk := hk x46 e_x46
                                refine lv_iinc (v := x46) (lv' := [(3, .int x46), (0, .ref (ad 0)), (1, .int a1), (2, .int a2)]) hx hb d_R_setPort_308 hl (k := 3) rfl (by rw [e_x46]; rfl) (by decide) rfl (fun ls hl => ?_)
                                refine lv_goto (tgt := 281) hx hb d_R_setPort_311 (by decide) ?_
                                exact ih1 _ _ _ _ _ hk hw (lv_sub hl [1, 2, 3, 0] rfl)
                          obtain ⟨n, hk⟩ := hk
                          exact hl1 n _ _ _ _ _ hk hw (lv_sub hl [1, 2, 3, 0] rfl)
                        · have hk := hk.2 hs12
                          by_cases hs13 : (a1 = (65351 : Int32))
                          · have hk := hk.1 hs13
                            refine lv_lookup (x := a1) (off := 316) (tgt := 317) hx hb d_R_setPort_1 (by decide) (by rw [hs13]; decide) (by decide) ?_
                            refine lv_aload_n hx hb d_R_setPort_317 rfl (lv_at hl 0 rfl) ?_
                            refine lv_iload_n hx hb d_R_setPort_318 rfl (lv_at hl 2 rfl) ?_
                            refine p_R_bgp hC hw q_35 d_R_setPort_319 (fun H locs M47 e_M47 hw => ?_)
                            have hk := hk M47 e_M47
                            refine lv_goto (tgt := 365) hx hb d_R_setPort_322 (by decide) ?_
                            exact hj1 _ _ _ _ hk hw (lv_sub hl [0, 1, 2] rfl)
                          · have hk := hk.2 hs13
                            by_cases hs14 : (a1 = (65352 : Int32))
                            · have hk := hk.1 hs14
                              refine lv_lookup (x := a1) (off := 324) (tgt := 325) hx hb d_R_setPort_1 (by decide) (by rw [hs14]; decide) (by decide) ?_
                              refine lv_aload_n hx hb d_R_setPort_325 rfl (lv_at hl 0 rfl) ?_
                              refine lv_iload_n hx hb d_R_setPort_326 rfl (lv_at hl 2 rfl) ?_
                              refine p_R_obp0 hC hw q_36 d_R_setPort_327 (fun H locs M48 e_M48 hw => ?_)
                              have hk := hk M48 e_M48
                              refine lv_goto (tgt := 365) hx hb d_R_setPort_330 (by decide) ?_
                              exact hj1 _ _ _ _ hk hw (lv_sub hl [0, 1, 2] rfl)
                            · have hk := hk.2 hs14
                              by_cases hs15 : (a1 = (65353 : Int32))
                              · have hk := hk.1 hs15
                                refine lv_lookup (x := a1) (off := 332) (tgt := 333) hx hb d_R_setPort_1 (by decide) (by rw [hs15]; decide) (by decide) ?_
                                refine lv_aload_n hx hb d_R_setPort_333 rfl (lv_at hl 0 rfl) ?_
                                refine lv_iload_n hx hb d_R_setPort_334 rfl (lv_at hl 2 rfl) ?_
                                refine p_R_obp1 hC hw q_37 d_R_setPort_335 (fun H locs M49 e_M49 hw => ?_)
                                have hk := hk M49 e_M49
                                refine lv_goto (tgt := 365) hx hb d_R_setPort_338 (by decide) ?_
                                exact hj1 _ _ _ _ hk hw (lv_sub hl [0, 1, 2] rfl)
                              · have hk := hk.2 hs15
                                by_cases hs16 : (a1 = (65354 : Int32))
                                · have hk := hk.1 hs16
                                  refine lv_lookup (x := a1) (off := 340) (tgt := 341) hx hb d_R_setPort_1 (by decide) (by rw [hs16]; decide) (by decide) ?_
                                  refine lv_aload_n hx hb d_R_setPort_341 rfl (lv_at hl 0 rfl) ?_
                                  refine lv_iload_n hx hb d_R_setPort_342 rfl (lv_at hl 2 rfl) ?_
                                  refine p_R_wy hC hw q_38 d_R_setPort_343 (fun H locs M50 e_M50 hw => ?_)
                                  have hk := hk M50 e_M50
                                  refine lv_goto (tgt := 365) hx hb d_R_setPort_346 (by decide) ?_
                                  exact hj1 _ _ _ _ hk hw (lv_sub hl [0, 1, 2] rfl)
                                · have hk := hk.2 hs16
                                  by_cases hs17 : (a1 = (65355 : Int32))
                                  · have hk := hk.1 hs17
                                    refine lv_lookup (x := a1) (off := 348) (tgt := 349) hx hb d_R_setPort_1 (by decide) (by rw [hs17]; decide) (by decide) ?_
                                    refine lv_aload_n hx hb d_R_setPort_349 rfl (lv_at hl 0 rfl) ?_
                                    refine lv_iload_n hx hb d_R_setPort_350 rfl (lv_at hl 2 rfl) ?_
                                    refine p_R_wx hC hw q_39 d_R_setPort_351 (fun H locs M51 e_M51 hw => ?_)
                                    have hk := hk M51 e_M51
                                    refine lv_goto (tgt := 365) hx hb d_R_setPort_354 (by decide) ?_
                                    exact hj1 _ _ _ _ hk hw (lv_sub hl [0, 1, 2] rfl)
                                  · have hk := hk.2 hs17
                                    by_cases hs18 : (a1 = (65535 : Int32))
                                    · have hk := hk.1 hs18
                                      refine lv_lookup (x := a1) (off := 356) (tgt := 357) hx hb d_R_setPort_1 (by decide) (by rw [hs18]; decide) (by decide) ?_
                                      refine lv_aload_n hx hb d_R_setPort_357 rfl (lv_at hl 0 rfl) ?_
                                      refine lv_iload_n hx hb d_R_setPort_358 rfl (lv_at hl 2 rfl) ?_
                                      refine p_R_enabled hC hw q_27 d_R_setPort_359 (fun H locs M52 e_M52 hw => ?_)
                                      have hk := hk M52 e_M52
                                      refine lv_goto (tgt := 365) hx hb d_R_setPort_362 (by decide) ?_
                                      exact hj1 _ _ _ _ hk hw (lv_sub hl [0, 1, 2] rfl)
                                    · have hk := hk.2 hs18
                                      refine lv_lookup (x := a1) (off := 364) (tgt := 365) hx hb d_R_setPort_1 (by decide) (by rw [lv_osw hs1 (by decide), lv_osw hs2 (by decide), lv_osw hs3 (by decide), lv_osw hs4 (by decide), lv_osw hs5 (by decide), lv_osw hs6 (by decide), lv_osw hs7 (by decide), lv_osw hs8 (by decide), lv_osw hs9 (by decide), lv_osw hs10 (by decide), lv_osw hs11 (by decide), lv_osw hs12 (by decide), lv_osw hs13 (by decide), lv_osw hs14 (by decide), lv_osw hs15 (by decide), lv_osw hs16 (by decide), lv_osw hs17 (by decide), lv_osw hs18 (by decide)]; rfl) (by decide) ?_
                                      exact hj1 _ _ _ _ hk hw (lv_sub hl [0, 1, 2] rfl)
set_option maxHeartbeats 4000000 in
set_option maxRecDepth 100000 in
theorem ct_R_put {l : Launch} {D : va_G} {cA : ClassId} {ad tb : Nat → Nat} (M0 : Mem) (a1 : Int32) (a2 : Int32) (Q : Mem → Prop) (hk : wp_R_put M0 a1 a2 Q) : Ct l y_R_put ws_R_put rm_R_put D (ceR ad cA) cA tb [.ref (ad 0), .int a1, .int a2] M0 (QV Q) := by
  refine Ct.of (own := "TileConsoleModel") (cc := b_R_put) (maxL := 3) (ret := none) ceR_fix (by decide) rfl rfl (Nat.le_of_ble_eq_true rfl) ?_
  intro p e s m args below meth c A QQ ls H locs hQQ hC hr hlk hw hl
  have hx := hC.1.1
  have hb := hC.1.2.1
  unfold wp_R_put at hk
  have hl : lv_has ls 3 [(0, .ref (ad 0)), (1, .int a1), (2, .int a2)] := hl
  refine lv_iload_n hx hb d_R_put_0 rfl (lv_at hl 1 rfl) ?_
  refine lv_ldc (v := (32768 : Int32)) hx hb hC.1.2.2.2.1 (hC.1.2.2.2.2 _ q_52) d_R_put_1 ?_
  have hj1 : ∀ (H : Heap) (locs : List Loc) (ls : Array Slot) (M16 : Mem), wp_R_put_j1 M16 Q → Wd D (ceR ad cA) A s H locs M16 → lv_has ls 3 [(0, .ref (ad 0)), (1, .int a1), (2, .int a2)] → W p l e rm_R_put s m args below meth c H locs 0 0 QQ (F0 m 161 ls []) := by
    intro H locs ls M16 hk hw hl
    unfold wp_R_put_j1 at hk
    exact rt_v hQQ hx hb hr hlk hw ⟨rfl, hk⟩ d_R_put_161
  refine lv_icmp_ge (tgt := 15) hx hb d_R_put_3 (by decide) (fun hc => ?_) (fun hc => ?_)
  · have hk := hk.1 hc
    refine lv_iload_n hx hb d_R_put_15 rfl (lv_at hl 1 rfl) ?_
    refine lv_ldc (v := (40960 : Int32)) hx hb hC.1.2.2.2.1 (hC.1.2.2.2.2 _ q_53) d_R_put_16 ?_
    refine lv_icmp_ge (tgt := 34) hx hb d_R_put_18 (by decide) (fun hc => ?_) (fun hc => ?_)
    · have hk := hk.1 hc
      refine lv_iload_n hx hb d_R_put_34 rfl (lv_at hl 1 rfl) ?_
      refine lv_ldc (v := (49152 : Int32)) hx hb hC.1.2.2.2.1 (hC.1.2.2.2.2 _ q_54) d_R_put_35 ?_
      refine lv_icmp_ge (tgt := 85) hx hb d_R_put_37 (by decide) (fun hc => ?_) (fun hc => ?_)
      · have hk := hk.1 hc
        refine lv_iload_n hx hb d_R_put_85 rfl (lv_at hl 1 rfl) ?_
        refine lv_ldc (v := (65024 : Int32)) hx hb hC.1.2.2.2.1 (hC.1.2.2.2.2 _ q_55) d_R_put_86 ?_
        refine lv_icmp_ge (tgt := 105) hx hb d_R_put_88 (by decide) (fun hc => ?_) (fun hc => ?_)
        · have hk := hk.1 hc
          refine lv_iload_n hx hb d_R_put_105 rfl (lv_at hl 1 rfl) ?_
          refine lv_ldc (v := (65184 : Int32)) hx hb hC.1.2.2.2.1 (hC.1.2.2.2.2 _ q_56) d_R_put_106 ?_
          refine lv_icmp_ge (tgt := 124) hx hb d_R_put_108 (by decide) (fun hc => ?_) (fun hc => ?_)
          · have hk := hk.1 hc
            refine lv_iload_n hx hb d_R_put_124 rfl (lv_at hl 1 rfl) ?_
            refine lv_ldc (v := (65408 : Int32)) hx hb hC.1.2.2.2.1 (hC.1.2.2.2.2 _ q_58) d_R_put_125 ?_
            have hj2 : ∀ (H : Heap) (locs : List Loc) (ls : Array Slot), wp_R_put_j2 M0 a1 a2 Q → Wd D (ceR ad cA) A s H locs M0 → lv_has ls 3 [(0, .ref (ad 0)), (1, .int a1), (2, .int a2)] → W p l e rm_R_put s m args below meth c H locs 0 0 QQ (F0 m 149 ls []) := by
              intro H locs ls  hk hw hl
              unfold wp_R_put_j2 at hk
              refine lv_iload_n hx hb d_R_put_149 rfl (lv_at hl 1 rfl) ?_
              refine lv_ldc (v := (65280 : Int32)) hx hb hC.1.2.2.2.1 (hC.1.2.2.2.2 _ q_57) d_R_put_150 ?_
              refine lv_icmp_lt (tgt := 161) hx hb d_R_put_152 (by decide) (fun hc => ?_) (fun hc => ?_)
              · have hk := hk.1 hc
                exact hj1 _ _ _ _ hk hw (lv_sub hl [0, 1, 2] rfl)
              · have hk := hk.2 hc
                refine lv_aload_n hx hb d_R_put_155 rfl (lv_at hl 0 rfl) ?_
                refine lv_iload_n hx hb d_R_put_156 rfl (lv_at hl 1 rfl) ?_
                refine lv_iload_n hx hb d_R_put_157 rfl (lv_at hl 2 rfl) ?_
                refine cl_Vv (j := 0) (As := [.int a1, .int a2]) hC hw (ct_R_setPort _ _ _ _ hk) q_67 mw_R_setPort rfl ⟨rfl, rfl, Nat.le_of_ble_eq_true rfl, Nat.le_of_ble_eq_true rfl⟩ rfl rfl rfl hl.1 rfl (Nat.le_of_ble_eq_true rfl) d_R_put_158 (fun H locs M19 hk hw => ?_)
                exact hj1 _ _ _ _ hk hw (lv_sub hl [0, 1, 2] rfl)
            refine lv_icmp_lt (tgt := 149) hx hb d_R_put_127 (by decide) (fun hc => ?_) (fun hc => ?_)
            · have hk := hk.1 hc
              exact hj2 _ _ _  hk hw (lv_sub hl [0, 1, 2] rfl)
            · have hk := hk.2 hc
              refine lv_iload_n hx hb d_R_put_130 rfl (lv_at hl 1 rfl) ?_
              refine lv_ldc (v := (65535 : Int32)) hx hb hC.1.2.2.2.1 (hC.1.2.2.2.2 _ q_59) d_R_put_131 ?_
              refine lv_icmp_ge (tgt := 149) hx hb d_R_put_133 (by decide) (fun hc => ?_) (fun hc => ?_)
              · have hk := hk.1 hc
                exact hj2 _ _ _  hk hw (lv_sub hl [0, 1, 2] rfl)
              · have hk := hk.2 hc
                refine lv_aload_n hx hb d_R_put_136 rfl (lv_at hl 0 rfl) ?_
                refine g_R_top hC hw q_4 d_R_put_137 ?_
                refine lv_iload_n hx hb d_R_put_140 rfl (lv_at hl 1 rfl) ?_
                refine lv_ldc (v := (65408 : Int32)) hx hb hC.1.2.2.2.1 (hC.1.2.2.2.2 _ q_58) d_R_put_141 ?_
                refine lv_isub hx hb d_R_put_143 ?_
                refine lv_iload_n hx hb d_R_put_144 rfl (lv_at hl 2 rfl) ?_
                obtain ⟨hin, hk⟩ := hk
                refine r_st_6 hC hw hin rfl d_R_put_145 (fun H locs M20 e_M20 hw => ?_)
                have hk := hk M20 e_M20
                refine lv_goto (tgt := 161) hx hb d_R_put_146 (by decide) ?_
                exact hj1 _ _ _ _ hk hw (lv_sub hl [0, 1, 2] rfl)
          · have hk := hk.2 hc
            refine lv_aload_n hx hb d_R_put_111 rfl (lv_at hl 0 rfl) ?_
            refine g_R_sprites hC hw q_3 d_R_put_112 ?_
            refine lv_iload_n hx hb d_R_put_115 rfl (lv_at hl 1 rfl) ?_
            refine lv_ldc (v := (65024 : Int32)) hx hb hC.1.2.2.2.1 (hC.1.2.2.2.2 _ q_55) d_R_put_116 ?_
            refine lv_isub hx hb d_R_put_118 ?_
            refine lv_iload_n hx hb d_R_put_119 rfl (lv_at hl 2 rfl) ?_
            obtain ⟨hin, hk⟩ := hk
            refine r_st_5 hC hw hin rfl d_R_put_120 (fun H locs M21 e_M21 hw => ?_)
            have hk := hk M21 e_M21
            refine lv_goto (tgt := 161) hx hb d_R_put_121 (by decide) ?_
            exact hj1 _ _ _ _ hk hw (lv_sub hl [0, 1, 2] rfl)
        · have hk := hk.2 hc
          refine lv_aload_n hx hb d_R_put_91 rfl (lv_at hl 0 rfl) ?_
          refine g_R_work hC hw q_2 d_R_put_92 ?_
          refine lv_iload_n hx hb d_R_put_95 rfl (lv_at hl 1 rfl) ?_
          refine lv_sipush (v := 1023) hx hb d_R_put_96 (by decide) ?_
          refine lv_iand hx hb d_R_put_99 ?_
          refine lv_iload_n hx hb d_R_put_100 rfl (lv_at hl 2 rfl) ?_
          obtain ⟨hin, hk⟩ := hk
          refine r_st_4 hC hw hin rfl d_R_put_101 (fun H locs M22 e_M22 hw => ?_)
          have hk := hk M22 e_M22
          refine lv_goto (tgt := 161) hx hb d_R_put_102 (by decide) ?_
          exact hj1 _ _ _ _ hk hw (lv_sub hl [0, 1, 2] rfl)
      · have hk := hk.2 hc
        refine lv_aload_n hx hb d_R_put_40 rfl (lv_at hl 0 rfl) ?_
        refine cl_Vip (j := 0) (As := []) hC hw (ct_R_hasRam _  _ hk) q_61 mw_R_hasRam rfl ⟨rfl, rfl, Nat.le_of_ble_eq_true rfl, Nat.le_of_ble_eq_true rfl⟩ rfl rfl rfl hl.1 rfl (Nat.le_of_ble_eq_true rfl) d_R_put_41 (fun H locs x23 hk hw => ?_)
        refine lv_if_eq (tgt := 161) hx hb d_R_put_44 (by decide) (fun hc => ?_) (fun hc => ?_)
        · have hk := hk.1 hc
          exact hj1 _ _ _ _ hk hw (lv_sub hl [0, 1, 2] rfl)
        · have hk := hk.2 hc
          refine lv_aload_n hx hb d_R_put_47 rfl (lv_at hl 0 rfl) ?_
          refine g_R_ram hC hw q_62 d_R_put_48 ?_
          refine lv_sipush (v := 256) hx hb d_R_put_51 (by decide) ?_
          refine lv_aload_n hx hb d_R_put_54 rfl (lv_at hl 0 rfl) ?_
          refine cl_Vip (j := 0) (As := []) hC hw (ct_R_bankRam _  _ hk) q_63 mw_R_bankRam rfl ⟨rfl, rfl, Nat.le_of_ble_eq_true rfl, Nat.le_of_ble_eq_true rfl⟩ rfl rfl rfl hl.1 rfl (Nat.le_of_ble_eq_true rfl) d_R_put_55 (fun H locs x24 hk hw => ?_)
          refine lv_imul hx hb d_R_put_58 ?_
          refine lv_iload_n hx hb d_R_put_59 rfl (lv_at hl 1 rfl) ?_
          refine lv_sipush (v := 255) hx hb d_R_put_60 (by decide) ?_
          refine lv_iand hx hb d_R_put_63 ?_
          refine lv_iadd hx hb d_R_put_64 ?_
          refine lv_aload_n hx hb d_R_put_65 rfl (lv_at hl 0 rfl) ?_
          refine g_R_kind hC hw q_48 d_R_put_66 ?_
          refine lv_iconst (v := 2) hx hb d_R_put_69 (by decide) ?_
          have hj3 : ∀ (H : Heap) (locs : List Loc) (ls : Array Slot) (x27 : Int32), wp_R_put_j3 M0 a1 x24 x27 Q → Wd D (ceR ad cA) A s H locs M0 → lv_has ls 3 [(0, .ref (ad 0)), (1, .int a1), (2, .int a2)] → W p l e rm_R_put s m args below meth c H locs 0 0 QQ (F0 m 81 ls [.int x27, .int (((256 : Int32) * x24) + (a1 &&& (255 : Int32))), .ref (ad 2)]) := by
            intro H locs ls x27 hk hw hl
            unfold wp_R_put_j3 at hk
            obtain ⟨hin, hk⟩ := hk
            refine r_st_2 hC hw hin rfl d_R_put_81 (fun H locs M28 e_M28 hw => ?_)
            have hk := hk M28 e_M28
            refine lv_goto (tgt := 161) hx hb d_R_put_82 (by decide) ?_
            exact hj1 _ _ _ _ hk hw (lv_sub hl [0, 1, 2] rfl)
          refine lv_icmp_ne (tgt := 80) hx hb d_R_put_70 (by decide) (fun hc => ?_) (fun hc => ?_)
          · have hk := hk.1 hc
            refine lv_iload_n hx hb d_R_put_80 rfl (lv_at hl 2 rfl) ?_
            exact hj3 _ _ _ _ hk hw (lv_sub hl [0, 1, 2] rfl)
          · have hk := hk.2 hc
            refine lv_iload_n hx hb d_R_put_73 rfl (lv_at hl 2 rfl) ?_
            refine lv_bipush (v := 15) hx hb d_R_put_74 (by decide) ?_
            refine lv_iand hx hb d_R_put_76 ?_
            refine lv_goto (tgt := 81) hx hb d_R_put_77 (by decide) ?_
            exact hj3 _ _ _ _ hk hw (lv_sub hl [0, 1, 2] rfl)
    · have hk := hk.2 hc
      refine lv_aload_n hx hb d_R_put_21 rfl (lv_at hl 0 rfl) ?_
      refine g_R_video hC hw q_0 d_R_put_22 ?_
      refine lv_iload_n hx hb d_R_put_25 rfl (lv_at hl 1 rfl) ?_
      refine lv_ldc (v := (32768 : Int32)) hx hb hC.1.2.2.2.1 (hC.1.2.2.2.2 _ q_52) d_R_put_26 ?_
      refine lv_isub hx hb d_R_put_28 ?_
      refine lv_iload_n hx hb d_R_put_29 rfl (lv_at hl 2 rfl) ?_
      obtain ⟨hin, hk⟩ := hk
      refine r_st_3 hC hw hin rfl d_R_put_30 (fun H locs M29 e_M29 hw => ?_)
      have hk := hk M29 e_M29
      refine lv_goto (tgt := 161) hx hb d_R_put_31 (by decide) ?_
      exact hj1 _ _ _ _ hk hw (lv_sub hl [0, 1, 2] rfl)
  · have hk := hk.2 hc
    refine lv_aload_n hx hb d_R_put_6 rfl (lv_at hl 0 rfl) ?_
    refine lv_iload_n hx hb d_R_put_7 rfl (lv_at hl 1 rfl) ?_
    refine lv_iload_n hx hb d_R_put_8 rfl (lv_at hl 2 rfl) ?_
    refine cl_Vv (j := 0) (As := [.int a1, .int a2]) hC hw (ct_R_controls _ _ _ _ hk) q_68 mw_R_controls rfl ⟨rfl, rfl, Nat.le_of_ble_eq_true rfl, Nat.le_of_ble_eq_true rfl⟩ rfl rfl rfl hl.1 rfl (Nat.le_of_ble_eq_true rfl) d_R_put_9 (fun H locs M30 hk hw => ?_)
    refine lv_goto (tgt := 161) hx hb d_R_put_12 (by decide) ?_
    exact hj1 _ _ _ _ hk hw (lv_sub hl [0, 1, 2] rfl)
set_option maxHeartbeats 4000000 in
set_option maxRecDepth 100000 in
theorem ct_R_reads {l : Launch} {D : va_G} {cA : ClassId} {ad tb : Nat → Nat} (M0 : Mem) (a1 : Int32) (Q : Int32 → Mem → Prop) (hk : wp_R_reads M0 a1 Q) : Ct l y_R_reads ws_R_reads rm_R_reads D (ceR ad cA) cA tb [.ref (ad 0), .int a1] M0 (QI Q) := by
  refine Ct.of (own := "TileConsoleModel") (cc := b_R_reads) (maxL := 2) (ret := (some .int)) ceR_fix (by decide) rfl rfl (Nat.le_of_ble_eq_true rfl) ?_
  intro p e s m args below meth c A QQ ls H locs hQQ hC hr hlk hw hl
  have hx := hC.1.1
  have hb := hC.1.2.1
  unfold wp_R_reads at hk
  have hl : lv_has ls 2 [(0, .ref (ad 0)), (1, .int a1)] := hl
  refine lv_aload_n hx hb d_R_reads_0 rfl (lv_at hl 0 rfl) ?_
  refine lv_dup hx hb d_R_reads_1 rfl ?_
  refine g_R_cost hC hw q_69 d_R_reads_2 ?_
  refine lv_iconst (v := 1) hx hb d_R_reads_5 (by decide) ?_
  refine lv_iadd hx hb d_R_reads_6 ?_
  refine p_R_cost hC hw q_69 d_R_reads_7 (fun H locs M1 e_M1 hw => ?_)
  have hk := hk M1 e_M1
  refine lv_aload_n hx hb d_R_reads_10 rfl (lv_at hl 0 rfl) ?_
  refine lv_iload_n hx hb d_R_reads_11 rfl (lv_at hl 1 rfl) ?_
  refine lv_ldc (v := (65535 : Int32)) hx hb hC.1.2.2.2.1 (hC.1.2.2.2.2 _ q_59) d_R_reads_12 ?_
  refine lv_iand hx hb d_R_reads_14 ?_
  refine cl_Vip (j := 0) (As := [.int (a1 &&& (65535 : Int32))]) hC hw (ct_R_get _ _ _ hk) q_66 mw_R_get rfl ⟨rfl, rfl, Nat.le_of_ble_eq_true rfl, Nat.le_of_ble_eq_true rfl⟩ rfl rfl rfl hl.1 rfl (Nat.le_of_ble_eq_true rfl) d_R_reads_15 (fun H locs x2 hk hw => ?_)
  exact rt_i hQQ hx hb hr hlk hw ⟨_, rfl, hk⟩ d_R_reads_18
set_option maxHeartbeats 4000000 in
set_option maxRecDepth 100000 in
theorem ct_R_writes {l : Launch} {D : va_G} {cA : ClassId} {ad tb : Nat → Nat} (M0 : Mem) (a1 : Int32) (a2 : Int32) (Q : Mem → Prop) (hk : wp_R_writes M0 a1 a2 Q) : Ct l y_R_writes ws_R_writes rm_R_writes D (ceR ad cA) cA tb [.ref (ad 0), .int a1, .int a2] M0 (QV Q) := by
  refine Ct.of (own := "TileConsoleModel") (cc := b_R_writes) (maxL := 3) (ret := none) ceR_fix (by decide) rfl rfl (Nat.le_of_ble_eq_true rfl) ?_
  intro p e s m args below meth c A QQ ls H locs hQQ hC hr hlk hw hl
  have hx := hC.1.1
  have hb := hC.1.2.1
  unfold wp_R_writes at hk
  have hl : lv_has ls 3 [(0, .ref (ad 0)), (1, .int a1), (2, .int a2)] := hl
  refine lv_aload_n hx hb d_R_writes_0 rfl (lv_at hl 0 rfl) ?_
  refine lv_dup hx hb d_R_writes_1 rfl ?_
  refine g_R_cost hC hw q_69 d_R_writes_2 ?_
  refine lv_iconst (v := 1) hx hb d_R_writes_5 (by decide) ?_
  refine lv_iadd hx hb d_R_writes_6 ?_
  refine p_R_cost hC hw q_69 d_R_writes_7 (fun H locs M1 e_M1 hw => ?_)
  have hk := hk M1 e_M1
  refine lv_aload_n hx hb d_R_writes_10 rfl (lv_at hl 0 rfl) ?_
  refine lv_iload_n hx hb d_R_writes_11 rfl (lv_at hl 1 rfl) ?_
  refine lv_ldc (v := (65535 : Int32)) hx hb hC.1.2.2.2.1 (hC.1.2.2.2.2 _ q_59) d_R_writes_12 ?_
  refine lv_iand hx hb d_R_writes_14 ?_
  refine lv_iload_n hx hb d_R_writes_15 rfl (lv_at hl 2 rfl) ?_
  refine lv_sipush (v := 255) hx hb d_R_writes_16 (by decide) ?_
  refine lv_iand hx hb d_R_writes_19 ?_
  refine cl_Vv (j := 0) (As := [.int (a1 &&& (65535 : Int32)), .int (a2 &&& (255 : Int32))]) hC hw (ct_R_put _ _ _ _ hk) q_70 mw_R_put rfl ⟨rfl, rfl, Nat.le_of_ble_eq_true rfl, Nat.le_of_ble_eq_true rfl⟩ rfl rfl rfl hl.1 rfl (Nat.le_of_ble_eq_true rfl) d_R_writes_20 (fun H locs M2 hk hw => ?_)
  exact rt_v hQQ hx hb hr hlk hw ⟨rfl, hk⟩ d_R_writes_23
set_option maxHeartbeats 4000000 in
set_option maxRecDepth 100000 in
theorem ct_R_next {l : Launch} {D : va_G} {cA : ClassId} {ad tb : Nat → Nat} (M0 : Mem) (Q : Int32 → Mem → Prop) (hk : wp_R_next M0 Q) : Ct l y_R_next ws_R_next rm_R_next D (ceR ad cA) cA tb [.ref (ad 0)] M0 (QI Q) := by
  refine Ct.of (own := "TileConsoleModel") (cc := b_R_next) (maxL := 2) (ret := (some .int)) ceR_fix (by decide) rfl rfl (Nat.le_of_ble_eq_true rfl) ?_
  intro p e s m args below meth c A QQ ls H locs hQQ hC hr hlk hw hl
  have hx := hC.1.1
  have hb := hC.1.2.1
  unfold wp_R_next at hk
  have hl : lv_has ls 2 [(0, .ref (ad 0))] := hl
  refine lv_aload_n hx hb d_R_next_0 rfl (lv_at hl 0 rfl) ?_
  refine lv_aload_n hx hb d_R_next_1 rfl (lv_at hl 0 rfl) ?_
  refine g_R_pc hC hw q_16 d_R_next_2 ?_
  refine cl_Vi (j := 0) (As := [.int (M0 0 19)]) hC hw (ct_R_reads _ _ _ hk) q_71 mw_R_reads rfl ⟨rfl, rfl, Nat.le_of_ble_eq_true rfl, Nat.le_of_ble_eq_true rfl⟩ rfl rfl rfl hl.1 rfl (Nat.le_of_ble_eq_true rfl) d_R_next_5 (fun H locs x1 M2 hk hw => ?_)
  refine lv_istore_n (lv' := [(1, .int x1), (0, .ref (ad 0))]) hx hb d_R_next_8 rfl hl (by decide) rfl (fun ls hl => ?_)
  refine lv_aload_n hx hb d_R_next_9 rfl (lv_at hl 1 rfl) ?_
  refine lv_aload_n hx hb d_R_next_10 rfl (lv_at hl 1 rfl) ?_
  refine g_R_pc hC hw q_16 d_R_next_11 ?_
  refine lv_iconst (v := 1) hx hb d_R_next_14 (by decide) ?_
  refine lv_iadd hx hb d_R_next_15 ?_
  refine lv_ldc (v := (65535 : Int32)) hx hb hC.1.2.2.2.1 (hC.1.2.2.2.2 _ q_59) d_R_next_16 ?_
  refine lv_iand hx hb d_R_next_18 ?_
  refine p_R_pc hC hw q_16 d_R_next_19 (fun H locs M3 e_M3 hw => ?_)
  have hk := hk M3 e_M3
  refine lv_iload_n hx hb d_R_next_22 rfl (lv_at hl 0 rfl) ?_
  exact rt_i hQQ hx hb hr hlk hw ⟨_, rfl, hk⟩ d_R_next_23
