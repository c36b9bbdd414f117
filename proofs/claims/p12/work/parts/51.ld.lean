/-! Loads agree. -/
theorem pn {a c k : Int32} (ha : 65280 ≤ a.toInt ∧ a.toInt < 65536) (hc : c.toInt = k.toInt + 65280) (hn : ¬ a = c) : ¬ (a &&& (255 : Int32)) = k := by
  intro e
  have h1 := port_ti ha
  rw [e] at h1
  exact hn (ti_inj (by omega))
def kb (b1 b2 : Bool) (d : Int32) (v x : Int32) : Int32 := if (b1 = true ∧ ((d >>> (x &&& (31 : Int32))) &&& (1 : Int32)) = (1 : Int32)) ∨ (b2 = true ∧ ((d >>> ((x + (4 : Int32)) &&& (31 : Int32))) &&& (1 : Int32)) = (1 : Int32)) then v &&& (((1 : Int32) <<< (x &&& (31 : Int32))) ^^^ (-1 : Int32)) else v
theorem kb_d : ∀ (b1 b2 : Bool) (j : Fin 256), kb b1 b2 (nI j.val) (kb b1 b2 (nI j.val) (kb b1 b2 (nI j.val) (kb b1 b2 (nI j.val) (15 : Int32) 0) 1) 2) 3 = (((if b1 = true then (nI j.val) &&& (15 : Int32) else 0) ||| (if b2 = true then (nI j.val) >>> ((4 : Int32) &&& (31 : Int32)) else 0)) ^^^ (-1 : Int32)) &&& (15 : Int32) := by decide +kernel
theorem kb_s {N : Mem} (n : Nat) (v x : Int32) (hx : ¬ (4 : Int32) ≤ x) : f_R_keyBits_l1_v N (n + 1) v x = f_R_keyBits_l1_v N n (kb (decide ((N 0 26 &&& (16 : Int32)) = 0)) (decide ((N 0 26 &&& (32 : Int32)) = 0)) (N 0 25) v x) (x + (1 : Int32)) := by
  rw [f_R_keyBits_l1_v_s]; unfold f_R_keyBits_j2_v f_R_keyBits_j3_v f_R_keyBits_j2_v f_R_keyBits_j1_v kb; dsimp only
  rw [if_neg hx]
  by_cases h1 : (N 0 26 &&& (16 : Int32)) = 0 <;> by_cases h2 : (N 0 26 &&& (32 : Int32)) = 0 <;> by_cases h3 : (((N 0 25) >>> (x &&& (31 : Int32))) &&& (1 : Int32)) = (1 : Int32) <;> by_cases h4 : (((N 0 25) >>> ((x + (4 : Int32)) &&& (31 : Int32))) &&& (1 : Int32)) = (1 : Int32) <;> simp [h1, h2, h3, h4]
theorem kb_v {N : Mem} (hd : oct (N 0 25)) : f_R_keyBits_v N = ((192 : Int32) ||| (N 0 26)) ||| ((((if (N 0 26 &&& (16 : Int32)) = 0 then (N 0 25) &&& (15 : Int32) else 0) ||| (if (N 0 26 &&& (32 : Int32)) = 0 then (N 0 25) >>> ((4 : Int32) &&& (31 : Int32)) else 0)) ^^^ (-1 : Int32)) &&& (15 : Int32)) := by
  obtain ⟨j, hj, e⟩ := of_nI (n := 256) hd (by decide)
  have h9 := kb_d (decide ((N 0 26 &&& (16 : Int32)) = 0)) (decide ((N 0 26 &&& (32 : Int32)) = 0)) ⟨j, hj⟩
  simp only [decide_eq_true_eq] at h9
  rw [show nI ((⟨j, hj⟩ : Fin 256) : Nat) = N 0 25 from e.symm] at h9
  rw [← h9]
  unfold f_R_keyBits_v
  rw [kb_s 4 _ _ (by decide), kb_s 3 _ _ (by decide), kb_s 2 _ _ (by decide), kb_s 1 _ _ (by decide), f_R_keyBits_l1_v_s]; dsimp only
  rw [if_pos (by decide)]; rfl
theorem ld_port {M N : Mem} (h : RP M N) (hd : oct (N 0 25)) {a : Int32} (ha : 65280 ≤ a.toInt ∧ a.toInt < 65536) : f_P_load_v M (a &&& (255 : Int32)) = f_R_port_v N a := by
  by_cases e0 : a = (65280 : Int32)
  · subst e0; unfold f_P_load_v f_R_port_v; simp (decide := true) only [if_false, if_true]
    rw [kb_v hd]; unfold f_P_load_j1_v f_P_load_j2_v; rw [h.g (c := 8) (k := 0) (j := 26) (by decide), h.g (c := 2) (k := 2) (j := 25) (by decide)]; dsimp only
    by_cases h1 : (N 0 26 &&& (16 : Int32)) = 0 <;> by_cases h2 : (N 0 26 &&& (32 : Int32)) = 0 <;> simp only [h1, h2, if_true, if_false]
  by_cases e4 : a = (65284 : Int32)
  · subst e4; unfold f_P_load_v f_R_port_v; simp (decide := true) only [if_false, if_true]
    rw [h.g (c := 2) (k := 3) (j := 27) (by decide)]
  by_cases e5 : a = (65285 : Int32)
  · subst e5; unfold f_P_load_v f_R_port_v; simp (decide := true) only [if_false, if_true]
    exact h.g (c := 8) (k := 5) (j := 28) (by decide)
  by_cases e6 : a = (65286 : Int32)
  · subst e6; unfold f_P_load_v f_R_port_v; simp (decide := true) only [if_false, if_true]
    exact h.g (c := 8) (k := 6) (j := 29) (by decide)
  by_cases e7 : a = (65287 : Int32)
  · subst e7; unfold f_P_load_v f_R_port_v; simp (decide := true) only [if_false, if_true]
    rw [h.g (c := 8) (k := 7) (j := 30) (by decide)]
  by_cases e15 : a = (65295 : Int32)
  · subst e15; unfold f_P_load_v f_R_port_v; simp (decide := true) only [if_false, if_true]
    rw [h.g (c := 8) (k := 15) (j := 31) (by decide)]
  by_cases e64 : a = (65344 : Int32)
  · subst e64; unfold f_P_load_v f_R_port_v; simp (decide := true) only [if_false, if_true]
    exact h.g (c := 8) (k := 64) (j := 33) (by decide)
  by_cases e65 : a = (65345 : Int32)
  · subst e65; unfold f_P_load_v f_R_port_v; simp (decide := true) only [if_false, if_true]
    unfold f_P_load_j3_v f_R_port_j1_v; dsimp only; rw [h.g (c := 8) (k := 65) (j := 34) (by decide), h.g (c := 2) (k := 5) (j := 37) (by decide), h.g (c := 8) (k := 69) (j := 38) (by decide), h.2, Int32.or_comm (N 0 34)]
  by_cases e66 : a = (65346 : Int32)
  · subst e66; unfold f_P_load_v f_R_port_v; simp (decide := true) only [if_false, if_true]
    exact h.g (c := 8) (k := 66) (j := 35) (by decide)
  by_cases e67 : a = (65347 : Int32)
  · subst e67; unfold f_P_load_v f_R_port_v; simp (decide := true) only [if_false, if_true]
    exact h.g (c := 8) (k := 67) (j := 36) (by decide)
  by_cases e68 : a = (65348 : Int32)
  · subst e68; unfold f_P_load_v f_R_port_v; simp (decide := true) only [if_false, if_true]
    exact h.g (c := 2) (k := 5) (j := 37) (by decide)
  by_cases e69 : a = (65349 : Int32)
  · subst e69; unfold f_P_load_v f_R_port_v; simp (decide := true) only [if_false, if_true]
    exact h.g (c := 8) (k := 69) (j := 38) (by decide)
  by_cases e70 : a = (65350 : Int32)
  · subst e70; unfold f_P_load_v f_R_port_v; simp (decide := true) only [if_false, if_true]
    exact h.g (c := 8) (k := 70) (j := 39) (by decide)
  by_cases e71 : a = (65351 : Int32)
  · subst e71; unfold f_P_load_v f_R_port_v; simp (decide := true) only [if_false, if_true]
    exact h.g (c := 8) (k := 71) (j := 40) (by decide)
  by_cases e72 : a = (65352 : Int32)
  · subst e72; unfold f_P_load_v f_R_port_v; simp (decide := true) only [if_false, if_true]
    exact h.g (c := 8) (k := 72) (j := 41) (by decide)
  by_cases e73 : a = (65353 : Int32)
  · subst e73; unfold f_P_load_v f_R_port_v; simp (decide := true) only [if_false, if_true]
    exact h.g (c := 8) (k := 73) (j := 42) (by decide)
  by_cases e74 : a = (65354 : Int32)
  · subst e74; unfold f_P_load_v f_R_port_v; simp (decide := true) only [if_false, if_true]
    exact h.g (c := 8) (k := 74) (j := 43) (by decide)
  by_cases e75 : a = (65355 : Int32)
  · subst e75; unfold f_P_load_v f_R_port_v; simp (decide := true) only [if_false, if_true]
    exact h.g (c := 8) (k := 75) (j := 44) (by decide)
  by_cases e255 : a = (65535 : Int32)
  · subst e255; unfold f_P_load_v f_R_port_v; simp (decide := true) only [if_false, if_true]
    exact h.g (c := 8) (k := 255) (j := 32) (by decide)
  have n0 := pn ha (c := 65280) (k := 0) (by decide) e0
  have n4 := pn ha (c := 65284) (k := 4) (by decide) e4
  have n5 := pn ha (c := 65285) (k := 5) (by decide) e5
  have n6 := pn ha (c := 65286) (k := 6) (by decide) e6
  have n7 := pn ha (c := 65287) (k := 7) (by decide) e7
  have n15 := pn ha (c := 65295) (k := 15) (by decide) e15
  have n64 := pn ha (c := 65344) (k := 64) (by decide) e64
  have n65 := pn ha (c := 65345) (k := 65) (by decide) e65
  have n66 := pn ha (c := 65346) (k := 66) (by decide) e66
  have n67 := pn ha (c := 65347) (k := 67) (by decide) e67
  have n68 := pn ha (c := 65348) (k := 68) (by decide) e68
  have n69 := pn ha (c := 65349) (k := 69) (by decide) e69
  have n70 := pn ha (c := 65350) (k := 70) (by decide) e70
  have n71 := pn ha (c := 65351) (k := 71) (by decide) e71
  have n72 := pn ha (c := 65352) (k := 72) (by decide) e72
  have n73 := pn ha (c := 65353) (k := 73) (by decide) e73
  have n74 := pn ha (c := 65354) (k := 74) (by decide) e74
  have n75 := pn ha (c := 65355) (k := 75) (by decide) e75
  have n255 := pn ha (c := 65535) (k := 255) (by decide) e255
  unfold f_P_load_v f_R_port_v
  simp only [n0, n4, n5, n6, n7, n15, n64, n65, n66, n67, n68, n69, n70, n71, n72, n73, n74, n75, n255, e0, e4, e5, e6, e7, e15, e64, e65, e66, e67, e68, e69, e70, e71, e72, e73, e74, e75, e255, or_self, if_false]
theorem ld {M N : Mem} (h : RM M N) (hd : oct (N 0 25)) {a : Int32} (ha : w16 a) : f_Y_load_v M a = f_R_get_v N a := by
  obtain ⟨⟨a6, a7, a9, a11, a10, a12⟩, ⟨c2, c3, c4, c5, c6, c7, -⟩, hp⟩ := h
  have c8000 : (32768 : Int32).toInt = 32768 := by decide
  have cA000 : (40960 : Int32).toInt = 40960 := by decide
  have cC000 : (49152 : Int32).toInt = 49152 := by decide
  have cFE00 : (65024 : Int32).toInt = 65024 := by decide
  have cFEA0 : (65184 : Int32).toInt = 65184 := by decide
  have cFF00 : (65280 : Int32).toInt = 65280 := by decide
  have cFF80 : (65408 : Int32).toInt = 65408 := by decide
  have cFFFF : (65535 : Int32).toInt = 65535 := by decide
  have c4000 : (16384 : Int32).toInt = 16384 := by decide
  unfold f_Y_load_v f_R_get_v f_Y_load_j1_v f_R_get_j1_v f_R_get_j2_v f_R_get_j3_v f_R_get_j4_v f_R_get_j3_v f_R_get_j1_v; dsimp only
  by_cases h8 : (32768 : Int32) ≤ a
  · have h4 : (16384 : Int32) ≤ a := by rw [ti_le] at *; omega
    rw [if_pos h8, if_pos h4, if_pos h8]
    by_cases hA : (40960 : Int32) ≤ a
    · rw [if_pos hA, if_pos hA]
      by_cases hC : (49152 : Int32) ≤ a
      · rw [if_pos hC, if_pos hC]
        by_cases hE : (65024 : Int32) ≤ a
        · rw [if_pos hE, if_pos hE]
          by_cases hF : (65184 : Int32) ≤ a
          · rw [if_pos hF, if_pos hF]
            by_cases hG : (65280 : Int32) ≤ a
            · rw [if_pos hG, if_pos hG]
              have hr : 65280 ≤ a.toInt ∧ a.toInt < 65536 := ⟨by rw [ti_le] at hG; omega, ha.2⟩
              by_cases hH : a < (65408 : Int32)
              · rw [if_pos hH, if_pos hH]; exact ld_port hp hd hr
              · rw [if_neg hH, if_neg hH]
                by_cases hI : a = (65535 : Int32)
                · rw [if_pos hI, if_pos hI]; exact ld_port hp hd hr
                · rw [if_neg hI, if_neg hI, a12]
                  rw [top_ti ⟨by rw [ti_lt] at hH; omega, by rw [ti_eq] at hI; omega⟩]
            · rw [if_neg hG, if_neg hG]
          · rw [if_neg hF, if_neg hF, a10]
        · rw [if_neg hE, if_neg hE, a11]
      · rw [if_neg hC, if_neg hC]
        unfold f_K_loadRam_v f_K_loadRam_j1_v; dsimp only
        rw [c4, c6, c3, a7]
        by_cases hr : f_R_hasRam_v N = 0
        · rw [if_pos hr, if_pos hr]
        · rw [if_neg hr, if_neg hr, Int32.mul_comm]
          by_cases hk : N 0 10 = (2 : Int32)
          · rw [if_pos hk, if_pos hk]
          · rw [if_neg hk, if_neg hk, Int32.or_zero]
    · rw [if_neg hA, if_neg hA, a9]
      rw [video_ti ⟨by rw [ti_le] at h8; omega, by rw [ti_le] at hA; omega⟩]
  · rw [if_neg h8]
    unfold f_K_loadRom_v f_K_loadRom_j1_v
    rw [c5, a6]
    by_cases h4 : (16384 : Int32) ≤ a
    · rw [if_pos h4, if_pos h4, if_neg h8, Int32.mul_comm]
    · rw [if_neg h4, if_neg h4, Int32.zero_mul, Int32.zero_add]
