/-! Both sides safe, the same keys down, the same ROM: kept by every call. -/
def KK (M N : Mem) : Prop := ∃ (d : Int32) (ρ : Nat → Int32), SC d ρ M ∧ SR d ρ N
theorem SR.e0 {d : Int32} {ρ : Nat → Int32} {N : Mem} (h : SR d ρ N) : SR d ρ (E0 N) := SR.sf h (by decide) (any_rng _)
theorem SR.x {d : Int32} {ρ : Nat → Int32} {N : Mem} (h : SR d ρ N) (c : Int32) : SR d ρ (mst (E0 N) 0 0 c) := SR.sf h.e0 (by decide) (any_rng _)
theorem lt87 {b : Int32} (h : b < (8 : Int32)) : ¬ (7 : Int32) < b := by
  rw [ti_lt] at *; have h8 : (8 : Int32).toInt = 8 := by decide
  have h7 : (7 : Int32).toInt = 7 := by decide
  omega
theorem nlt87 {b : Int32} (h : ¬ b < (8 : Int32)) : (7 : Int32) < b := by
  rw [ti_lt] at *; have h8 : (8 : Int32).toInt = 8 := by decide
  have h7 : (7 : Int32).toInt = 7 := by decide
  omega
theorem l144 {b : Int32} (h : b < (144 : Int32)) : ¬ (143 : Int32) < b := by
  rw [ti_lt] at *; have h8 : (144 : Int32).toInt = 144 := by decide
  have h7 : (143 : Int32).toInt = 143 := by decide
  omega
theorem n144 {b : Int32} (h : ¬ b < (144 : Int32)) : (143 : Int32) < b := by
  rw [ti_lt] at *; have h8 : (144 : Int32).toInt = 144 := by decide
  have h7 : (143 : Int32).toInt = 143 := by decide
  omega
theorem l160 {b : Int32} (h : b < (160 : Int32)) : ¬ (159 : Int32) < b := by
  rw [ti_lt] at *; have h8 : (160 : Int32).toInt = 160 := by decide
  have h7 : (159 : Int32).toInt = 159 := by decide
  omega
theorem n160 {b : Int32} (h : ¬ b < (160 : Int32)) : (159 : Int32) < b := by
  rw [ti_lt] at *; have h8 : (160 : Int32).toInt = 160 := by decide
  have h7 : (159 : Int32).toInt = 159 := by decide
  omega
theorem nn0 {a : Int32} (h : ¬ a < 0) : 0 ≤ a.toInt := by
  rw [ti_lt] at h; have h0 : (0 : Int32).toInt = 0 := by decide
  omega
theorem le_ti {a : Int32} {c : Int32} (h : a ≤ c) : a.toInt ≤ c.toInt := ti_le.mp h
theorem sub_ti {c k : Int32} (hk : 0 ≤ k.toInt ∧ k.toInt ≤ 8) (hc : 0 ≤ c.toInt) : (c - k).toInt = c.toInt - k.toInt := by
  have := any_rng c
  rw [ti_sub (by omega) (by omega)]
theorem k18 {k : Int32} (h1 : ¬ k < (1 : Int32)) (h2 : k ≤ (8 : Int32)) : 0 ≤ k.toInt ∧ k.toInt ≤ 8 := by
  rw [ti_lt] at h1; rw [ti_le] at h2
  have h8 : (8 : Int32).toInt = 8 := by decide
  have h7 : (1 : Int32).toInt = 1 := by decide
  omega
theorem st_rom {M N : Mem} (h : KK M N) (b a k : Int32) (w : Int64) : St_rom M N b a k w KK := by
  obtain ⟨d, ρ, sM, sN⟩ := h
  unfold St_rom
  by_cases h1 : k < (1 : Int32)
  · exact Or.inr (wX1_rom (Or.inl h1) ⟨Or.inl rfl, wRx1_rom (Or.inl (Or.inl h1)) (⟨d, ρ, sM, sN.x 1⟩)⟩)
  by_cases h2 : k ≤ (8 : Int32)
  rotate_left
  · exact Or.inr (wX1_rom (Or.inr (Or.inl h2)) ⟨Or.inl rfl, wRx1_rom (Or.inl (Or.inr (nlt h2))) (⟨d, ρ, sM, sN.x 1⟩)⟩)
  by_cases h3 : b < 0
  · exact Or.inr (wX1_rom (Or.inr (Or.inr (Or.inl h3))) ⟨Or.inl rfl, wRx1_rom (Or.inr (Or.inl h3)) (⟨d, ρ, sM, sN.x 1⟩)⟩)
  by_cases h4 : b < (8 : Int32)
  rotate_left
  · exact Or.inr (wX1_rom (Or.inr (Or.inr (Or.inr h4))) ⟨Or.inl rfl, wRx1_rom (Or.inr (Or.inr (nlt87 h4))) (⟨d, ρ, sM, sN.x 1⟩)⟩)
  by_cases h5 : a < 0
  · exact Or.inr (wX2_rom h1 h2 h3 h4 (Or.inl h5) ⟨Or.inr rfl, wRx2_rom h1 (len h2) h3 (lt87 h4) (Or.inl h5) (⟨d, ρ, sM, sN.x 2⟩)⟩)
  by_cases h6 : a ≤ (1024 : Int32) - k
  rotate_left
  · exact Or.inr (wX2_rom h1 h2 h3 h4 (Or.inr h6) ⟨Or.inr rfl, wRx2_rom h1 (len h2) h3 (lt87 h4) (Or.inr (nlt h6)) (⟨d, ρ, sM, sN.x 2⟩)⟩)
  have hk := k18 h1 h2
  have hb : 0 ≤ b.toInt ∧ b.toInt < 8 := ⟨nn0 h3, ti_lt.mp h4⟩
  have ha := nn0 h5
  have hak : a.toInt + k.toInt ≤ 1024 := by
    have h7 := le_ti h6
    rw [sub_ti hk (by decide)] at h7
    have h8 : (1024 : Int32).toInt = 1024 := by decide
    omega
  obtain ⟨r1, r2, r3, r4, ⟨ρ2, s1, s2⟩, r6, r7⟩ := rom_loop (w := w) hb ha hk.2 hak 9 d ρ 0 M (E0 N) (by decide) (by decide) (by decide) sM sN.e0
  exact Or.inl (wT_rom h1 h2 h3 h4 h5 h6 r1 (wR_rom h1 (len h2) h3 (lt87 h4) h5 (len h6) r2 (⟨d, ρ2, s1, s2⟩)))
theorem st_insert {M N : Mem} (h : KK M N) (k : Int32) : St_insert M N k KK := by
  obtain ⟨d, ρ, sM, sN⟩ := h
  unfold St_insert
  by_cases h1 : k < 0
  · exact Or.inr (wX1_insert (Or.inl h1) ⟨Or.inl rfl, wRx1_insert (Or.inl h1) (⟨d, ρ, sM, sN.x 1⟩)⟩)
  by_cases h2 : k ≤ (3 : Int32)
  rotate_left
  · exact Or.inr (wX1_insert (Or.inr h2) ⟨Or.inl rfl, wRx1_insert (Or.inr (nlt h2)) (⟨d, ρ, sM, sN.x 1⟩)⟩)
  have okh := (so_K_headerAgrees M sM).1
  have hv := hdT sM.2.2.2.2
  have hN : N 1 = ρ := sN.2.2.2.2
  by_cases hh : hdr ρ
  rotate_left
  · rw [if_neg hh] at hv
    exact Or.inr (wX2_insert h1 h2 okh hv ⟨Or.inr rfl, wRx2_insert h1 (len h2) (by rw [hN]; exact hh) (⟨d, ρ, sM, sN.x 2⟩)⟩)
  rw [if_pos hh] at hv
  have t1 := so_T_startAnew (mst (mst M 1 2 (1 : Int32)) 1 3 k) (SC.s1 (SC.s1 sM (by decide)) (by decide))
  have t2 := so_R_reset (mst (mst (E0 N) 0 8 (1 : Int32)) 0 10 k) (SR.sf (SR.sf sN.e0 (by decide) (any_rng _)) (by decide) (any_rng _))
  exact Or.inl (wT_insert h1 h2 okh (by rw [hv]; decide) t1.1 (wR_insert h1 (len h2) (by rw [hN]; exact hh) t2.1 (⟨d, ρ, t1.2, t2.2⟩)))
theorem st_runR {N : Mem} {d : Int32} {ρ : Nat → Int32} (sN : SR d ρ N) (a : Int32) (Q : Int32 → Mem → Prop) (hQ : ∀ v N', SR d ρ N' → Q v N') : wp_R_run N a Q := by
  by_cases h1 : a < (1 : Int32)
  · exact wRx1_run (Or.inl h1) (hQ _ _ (sN.x 1))
  by_cases h2 : (100 : Int32) < a
  · exact wRx1_run (Or.inr h2) (hQ _ _ (sN.x 1))
  by_cases h3 : N 0 8 = 0
  · exact wRx2_run h1 h2 h3 (hQ _ _ (sN.x 2))
  by_cases h4 : N 0 23 = 0
  rotate_left
  · exact wRx3_run h1 h2 h3 h4 (hQ _ _ (sN.x 3))
  have ha : a.toInt ≤ 100 := by
    rw [ti_lt] at h2; have h8 : (100 : Int32).toInt = 100 := by decide
    omega
  have t := so_R_run_l1 (d := d) (ρ := ρ) (Q := fun _ M' => SR d ρ M') a ha (fun _ _ h => h) 101 0 0 (E0 N) sN.e0 (by decide) (by decide) (by decide)
  exact wR_run h1 h2 h3 h4 t.1 (hQ _ _ t.2)
theorem st_run {M N : Mem} (h : KK M N) (a : Int32) : St_run M N a KK := by
  obtain ⟨d, ρ, sM, sN⟩ := h
  unfold St_run
  have key : ∀ M', SC d ρ M' → wp_R_run N a (fun b N' => KK M' N') := fun M' s => st_runR sN a _ (fun v N' s' => ⟨d, ρ, s, s'⟩)
  by_cases h1 : a < (1 : Int32)
  · exact Or.inr (wX1_run (Or.inl h1) ⟨Or.inl rfl, key M sM⟩)
  by_cases h2 : a ≤ (100 : Int32)
  rotate_left
  · exact Or.inr (wX1_run (Or.inr h2) ⟨Or.inl rfl, key M sM⟩)
  by_cases h3 : M 1 2 = 0
  · exact Or.inr (wX2_run h1 h2 h3 ⟨Or.inr (Or.inl rfl), key M sM⟩)
  rcases run_T (x10 := M 5 0) (le_ti h2) 101 0 M (by decide) (by decide) (by decide) sM with ⟨r1, r2⟩ | ⟨r1, r2, r3⟩
  · exact Or.inl (wT_run h1 h2 h3 r1 (key _ r2))
  · exact Or.inr (wX3_run h1 h2 h3 r1 ⟨Or.inr (Or.inr r3), key _ r2⟩)
theorem st_set {M N : Mem} (h : KK M N) (a v : Int32) : St_set M N a v KK := by
  obtain ⟨d, ρ, sM, sN⟩ := h
  unfold St_set
  by_cases h1 : a < 0
  · exact Or.inr (wX_set (Or.inl h1) ⟨rfl, wRx_set (Or.inl h1) ⟨d, ρ, sM, sN.x 1⟩⟩)
  by_cases h2 : a ≤ (9 : Int32)
  rotate_left
  · exact Or.inr (wX_set (Or.inr h2) ⟨rfl, wRx_set (Or.inr (nlt h2)) ⟨d, ρ, sM, sN.x 1⟩⟩)
  have t1 := so_Q_valueOf M a sM
  have t2 := so_Q_put M a v sM
  have t3 := so_R_registerAt (E0 N) a sN.e0 ⟨nn0 h1, by have := le_ti h2; exact this⟩
  have t4 : SR d ρ (setR (E0 N) a v) := by
    unfold setR; split
    · exact SR.sr sN.e0 (and_lt (by decide))
    split
    · exact SR.sr sN.e0 (and_lt (by decide))
    split
    · split
      · exact SR.sf sN.e0 (by decide) (and_lt (by decide))
      · exact SR.sf sN.e0 (by decide) (and_lt (by decide))
    · exact SR.sr sN.e0 (and_lt (by decide))
  exact Or.inl (wT_set h1 h2 ⟨t1.1, t2.1⟩ (wR_set h1 (len h2) t3.1 ⟨d, ρ, t2.2, t4⟩))
theorem st_register {M N : Mem} (h : KK M N) (a : Int32) : St_register M N a KK := by
  obtain ⟨d, ρ, sM, sN⟩ := h
  unfold St_register
  by_cases h1 : a < 0
  · exact Or.inr (wX_register (Or.inl h1) ⟨rfl, wRx_register (Or.inl h1) ⟨d, ρ, sM, sN.x 1⟩⟩)
  by_cases h2 : a ≤ (9 : Int32)
  rotate_left
  · exact Or.inr (wX_register (Or.inr h2) ⟨rfl, wRx_register (Or.inr (nlt h2)) ⟨d, ρ, sM, sN.x 1⟩⟩)
  have t3 := so_R_registerAt (E0 N) a sN.e0 ⟨nn0 h1, by have := le_ti h2; exact this⟩
  exact Or.inl (wT_register h1 h2 (so_Q_valueOf M a sM).1 (wR_register h1 (len h2) t3.1 ⟨d, ρ, sM, sN.e0⟩))
theorem st_read {M N : Mem} (h : KK M N) (a : Int32) : St_read M N a KK := by
  obtain ⟨d, ρ, sM, sN⟩ := h
  unfold St_read
  by_cases h1 : a < 0
  · exact Or.inr (wX_read (Or.inl h1) ⟨rfl, wRx_read (Or.inl h1) ⟨d, ρ, sM, sN.x 1⟩⟩)
  by_cases h2 : a ≤ (65535 : Int32)
  rotate_left
  · exact Or.inr (wX_read (Or.inr h2) ⟨rfl, wRx_read (Or.inr (nlt h2)) ⟨d, ρ, sM, sN.x 1⟩⟩)
  have t3 := so_R_get (E0 N) a sN.e0 ⟨nn0 h1, by have h9 := le_ti h2; have h8 : (65535 : Int32).toInt = 65535 := by decide
                                                 omega⟩
  exact Or.inl (wT_read h1 h2 (so_Y_load M a sM).1 (wR_read h1 (len h2) t3.1 ⟨d, ρ, sM, sN.e0⟩))
theorem st_write {M N : Mem} (h : KK M N) (a k : Int32) (w : Int64) : St_write M N a k w KK := by
  obtain ⟨d, ρ, sM, sN⟩ := h
  unfold St_write
  by_cases h1 : k < (1 : Int32)
  · exact Or.inr (wX_write (Or.inl h1) ⟨rfl, wRx_write (Or.inl (Or.inl h1)) (⟨mst_eq, ⟨d, ρ, sM, sN.x 1⟩⟩)⟩)
  by_cases h2 : k ≤ (8 : Int32)
  rotate_left
  · exact Or.inr (wX_write (Or.inr (Or.inl h2)) ⟨rfl, wRx_write (Or.inl (Or.inr (nlt h2))) (⟨mst_eq, ⟨d, ρ, sM, sN.x 1⟩⟩)⟩)
  by_cases h3 : a < 0
  · exact Or.inr (wX_write (Or.inr (Or.inr (Or.inl h3))) ⟨rfl, wRx_write (Or.inr (Or.inl h3)) (⟨mst_eq, ⟨d, ρ, sM, sN.x 1⟩⟩)⟩)
  by_cases h4 : a ≤ (65536 : Int32) - k
  rotate_left
  · exact Or.inr (wX_write (Or.inr (Or.inr (Or.inr h4))) ⟨rfl, wRx_write (Or.inr (Or.inr (nlt h4))) (⟨mst_eq, ⟨d, ρ, sM, sN.x 1⟩⟩)⟩)
  have hk := k18 h1 h2
  have hak : a.toInt + k.toInt ≤ 65536 := by
    have h7 := le_ti h4
    rw [sub_ti hk (by decide)] at h7
    have h8 : (65536 : Int32).toInt = 65536 := by decide
    omega
  have t1 := so_T_write_l1 (d := d) (ρ := ρ) (Q := fun _ M' => SC d ρ M') a k w hk.2 (fun _ _ h => h) 9 0 M sM (by decide) (by decide) (by decide)
  have t2 := so_R_write_l1 (d := d) (ρ := ρ) (Q := fun _ M' => SR d ρ M') a k w (nn0 h3) hak hk.2 (fun _ _ h => h) 9 0 (E0 N) sN.e0 (by decide) (by decide) (by decide)
  exact Or.inl (wT_write h1 h2 h3 h4 t1.1 (wR_write h1 (len h2) h3 (len h4) t2.1 (⟨er_R_write_l1 a k w 9 0 (E0 N) (E0_0 N), rfl, ⟨d, ρ, t1.2, t2.2⟩⟩)))
theorem SC.press {d : Int32} {ρ : Nat → Int32} {M : Mem} (h : SC d ρ M) (a : Int32) : SC a ρ (f_P_press_m M a) := by
  have h1 : SC a ρ (mst M 2 2 a) := by
    unfold SC; rw [mst_no (by decide), mst_eq, mst_no (by decide)]; exact ⟨h.1, h.2.1, h.2.2.1, rfl, h.2.2.2.2⟩
  unfold f_P_press_m f_P_press_j1_m; dsimp only; split
  · exact h1
  · exact SC.sa h1 (by decide)
theorem press_v (M : Mem) (a : Int32) : f_P_press_v M a = M 2 2 := by
  unfold f_P_press_v f_P_press_j1_v; dsimp only; split <;> rfl
theorem SR.key {d : Int32} {ρ : Nat → Int32} {N : Mem} (h : SR d ρ N) (a : Int32) : SR a ρ (mst N 0 25 a) := by
  refine ⟨fun c' k' h1 h2 => ?_, fun k' => ?_, fun k' => ?_, ?_, ?_⟩
  · rw [mst_no (by omega)]; exact h.1 c' k' h1 h2
  · rw [mst_no (by omega)]; exact h.2.1 k'
  · by_cases e : k' = 25
    · subst e; rw [mst_eq]; exact any_rng _
    · rw [mst_ne e]; exact h.2.2.1 k'
  · rw [mst_eq]
  · rw [mst_no (by decide)]; exact h.2.2.2.2
theorem SR.keys {d : Int32} {ρ : Nat → Int32} {N : Mem} (h : SR d ρ N) (a : Int32) : SR a ρ (keysR (E0 N) a) := by
  unfold keysR; split
  · exact SR.key h.e0 a
  · exact SR.key (SR.sf h.e0 (by decide) (f31 (h.e0.f 31) _ (by decide))) a
theorem keysR_e (N : Mem) (a : Int32) : keysR (E0 N) a 0 0 = 0 := by
  unfold keysR; split
  · exact er_mst (E0_0 N) (Or.inr (by decide))
  · exact er_mst (er_mst (E0_0 N) (Or.inr (by decide))) (Or.inr (by decide))
theorem st_keys {M N : Mem} (h : KK M N) (a : Int32) : St_keys M N a KK := by
  obtain ⟨d, ρ, sM, sN⟩ := h
  unfold St_keys
  by_cases h1 : a < 0
  · exact Or.inr (wX_keys (Or.inl h1) ⟨rfl, wRx_keys (Or.inl h1) (⟨d, ρ, sM, sN.x 1⟩)⟩)
  by_cases h2 : a ≤ (255 : Int32)
  rotate_left
  · exact Or.inr (wX_keys (Or.inr h2) ⟨rfl, wRx_keys (Or.inr (nlt h2)) (⟨d, ρ, sM, sN.x 1⟩)⟩)
  exact Or.inl (wT_keys h1 h2 (wR_keys h1 (len h2) (⟨a, ρ, sM.press a, sN.keys a⟩)))
theorem st_row {M N : Mem} (h : KK M N) (a : Int32) : St_row M N a KK := by
  obtain ⟨d, ρ, sM, sN⟩ := h
  unfold St_row
  by_cases h1 : a < 0
  · exact Or.inr (wX_row (Or.inl h1) ⟨rfl, wRx_row (Or.inl h1) ⟨d, ρ, sM, sN.x 1⟩⟩)
  by_cases h2 : a < (144 : Int32)
  rotate_left
  · exact Or.inr (wX_row (Or.inr h2) ⟨rfl, wRx_row (Or.inr (n144 h2)) ⟨d, ρ, sM, sN.x 1⟩⟩)
  have t1 := so_S_make M a sM
  have t2 := so_R_row_l1 (d := d) (ρ := ρ) (Q := fun _ M' => SR d ρ M') a ⟨nn0 h1, ti_lt.mp h2⟩ (fun _ _ h => h) 161 0 0 (E0 N) sN.e0 (by decide) (by decide) (by decide)
  exact Or.inl (wT_row h1 h2 t1.1 (wR_row h1 (l144 h2) t2.1 ⟨d, ρ, t1.2, t2.2⟩))
theorem st_pixel {M N : Mem} (h : KK M N) (a : Int32) : St_pixel M N a KK := by
  obtain ⟨d, ρ, sM, sN⟩ := h
  unfold St_pixel
  by_cases h1 : a < 0
  · exact Or.inr (wX_pixel (Or.inl h1) ⟨rfl, wRx_pixel (Or.inl h1) ⟨d, ρ, sM, sN.x 1⟩⟩)
  by_cases h2 : a < (160 : Int32)
  rotate_left
  · exact Or.inr (wX_pixel (Or.inr h2) ⟨rfl, wRx_pixel (Or.inr (n160 h2)) ⟨d, ρ, sM, sN.x 1⟩⟩)
  have hi : vp_in a 160 := vp_iff.mpr ⟨nn0 h1, ti_lt.mp h2⟩
  exact Or.inl (wT_pixel h1 h2 hi (wR_pixel h1 (l160 h2) hi ⟨d, ρ, sM, sN.e0⟩))
theorem st_count {M N : Mem} (h : KK M N) (a : Int32) : St_count M N a KK := by
  obtain ⟨d, ρ, sM, sN⟩ := h
  unfold St_count
  by_cases h1 : a < 0 ∨ (8 : Int32) < a
  · exact Or.inr (wX_count h1 ⟨rfl, wRx_count h1 ⟨d, ρ, sM, sN.x 1⟩⟩)
  have h2 : ¬ a < 0 := fun x => h1 (Or.inl x)
  have h3 : ¬ (8 : Int32) < a := fun x => h1 (Or.inr x)
  exact Or.inl (wT_count h2 h3 (wR_count h2 h3 ⟨d, ρ, sM, sN.e0⟩))
theorem st_speed {M N : Mem} (h : KK M N) : St_speed M N KK := by
  obtain ⟨d, ρ, sM, sN⟩ := h
  unfold St_speed
  have key : wp_R_speed N (fun b N' => KK M N') := by
    by_cases h2 : N 0 47 = 0
    · exact wRx_speed h2 ⟨d, ρ, sM, sN.x 1⟩
    · exact wR_speed h2 ⟨d, ρ, sM, sN.e0⟩
  by_cases h1 : M 5 0 = 0
  · exact Or.inr (wX_speed h1 ⟨rfl, key⟩)
  · exact Or.inl (wT_speed h1 key)
theorem SC0 : SC 0 (fun _ => 0) (fun _ _ => 0) := ⟨by decide, by decide, by decide, rfl, rfl⟩
set_option maxRecDepth 100000 in
theorem rng0 : ∀ k : Nat, rLo k ≤ (0 : Int32).toInt ∧ (0 : Int32).toInt < rHi k := by
  intro k
  by_cases h : k < 51
  · have h9 : ∀ j : Fin 51, rLo j.val ≤ (0 : Int32).toInt ∧ (0 : Int32).toInt < rHi j.val := by decide
    exact h9 ⟨k, h⟩
  · have e1 : rLo k = -2147483648 := by unfold rLo; rw [List.getD_eq_getElem?_getD, List.getElem?_eq_none (by simp; omega)]; rfl
    have e2 : rHi k = 2147483648 := by unfold rHi; rw [List.getD_eq_getElem?_getD, List.getElem?_eq_none (by simp; omega)]; rfl
    rw [e1, e2]; decide
theorem SR0 : SR 0 (fun _ => 0) (fun _ _ => 0) := ⟨fun _ _ _ _ => by show oct 0; decide, fun _ => by show oct 0; decide, fun k => rng0 k, rfl, rfl⟩
theorem st_all {M N : Mem} (h : KK M N) (a : Nat → Int32) : Step M N a KK :=
  ⟨fun _ => st_rom h _ _ _ _, fun _ => st_insert h _, fun _ => st_run h _, fun _ => st_set h _ _, fun _ => st_register h _, fun _ => st_read h _, fun _ => st_write h _ _ _, fun _ => st_keys h _, fun _ => st_row h _, fun _ => st_pixel h _, fun _ => st_count h _, fun _ => st_speed h, fun _ => h⟩
theorem whole_start {p : Program} {e : Env} {s : State} {m : MethodId} {below : List Frame} {meth : Method} {c : Code} (l : Launch) (hl0 : l.stackTraces = false) {b L : Nat} {xs : Nat → Int32} (hL : L ≤ 3072) (C0 : lw_At p s m meth c b L xs) : W p l e room_1 s m #[Value.ref b] below meth c s.heap [] 0 0 (lw_Z below #[Value.ref b] s) (entryFrame m ([Value.ref b] : List Value).toArray 9) := by
  have t1 := so_T_startAnew (fun _ _ => 0) SC0
  have t2 := so_R_reset (fun _ _ => 0) SR0
  exact law_all l hl0 hL C0 (fun _ => KK) (fun M => SC 0 (fun _ => 0) M) (fun N => SR 0 (fun _ => 0) N) (sp_T_startAnew _ _ t1.1 t1.2) (sp_R_reset _ _ t2.1 t2.2) (fun M N h1 h2 => ⟨0, _, h1, h2⟩) (fun j M N _ h => st_all h _)
