/-! Both sides agree: kept by every call. -/
def KF (M N : Mem) : Prop := ∃ (d : Int32) (ρ : Nat → Int32), SC d ρ M ∧ RZ d ρ M N ∧ N 6 127 = 0
theorem lt87 {b : Int32} (h : b < (8 : Int32)) : ¬ (7 : Int32) < b := by
  rw [ti_lt] at *; have h8 : (8 : Int32).toInt = 8 := by decide
  have h7 : (7 : Int32).toInt = 7 := by decide
  omega
theorem nlt87 {b : Int32} (h : ¬ b < (8 : Int32)) : (7 : Int32) < b := by
  rw [ti_lt] at *; have h8 : (8 : Int32).toInt = 8 := by decide
  have h7 : (7 : Int32).toInt = 7 := by decide
  omega
theorem l160 {b : Int32} (h : b < (160 : Int32)) : ¬ (159 : Int32) < b := by
  rw [ti_lt] at *; have h8 : (160 : Int32).toInt = 160 := by decide
  have h7 : (159 : Int32).toInt = 159 := by decide
  omega
theorem n160 {b : Int32} (h : ¬ b < (160 : Int32)) : (159 : Int32) < b := by
  rw [ti_lt] at *; have h8 : (160 : Int32).toInt = 160 := by decide
  have h7 : (159 : Int32).toInt = 159 := by decide
  omega
theorem nn0 {a : Int32} (h : ¬ a < 0) : 0 ≤ a.toInt := by
  rw [ti_lt] at h; have h0 : (0 : Int32).toInt = 0 := by decide
  omega
theorem le_ti {a : Int32} {c : Int32} (h : a ≤ c) : a.toInt ≤ c.toInt := ti_le.mp h
theorem sub_ti {c k : Int32} (hk : 0 ≤ k.toInt ∧ k.toInt ≤ 8) (hc : 0 ≤ c.toInt) : (c - k).toInt = c.toInt - k.toInt := by
  have := any_rng c
  rw [ti_sub (by omega) (by omega)]
theorem k18 {k : Int32} (h1 : ¬ k < (1 : Int32)) (h2 : k ≤ (8 : Int32)) : 0 ≤ k.toInt ∧ k.toInt ≤ 8 := by
  rw [ti_lt] at h1; rw [ti_le] at h2
  have h8 : (8 : Int32).toInt = 8 := by decide
  have h7 : (1 : Int32).toInt = 1 := by decide
  omega
theorem RZ.e0 {d : Int32} {ρ : Nat → Int32} {M N : Mem} (h : RZ d ρ M N) : RZ d ρ M (E0 N) := h.e 0
theorem RZ.x {d : Int32} {ρ : Nat → Int32} {M N : Mem} (h : RZ d ρ M N) (c : Int32) : RZ d ρ M (mst (E0 N) 0 0 c) := (h.e 0).e c
theorem t127 {N : Mem} (h : N 6 127 = 0) : E0 N 6 127 = 0 := by show mst N 0 0 0 6 127 = 0; rw [mst_no (by decide)]; exact h
theorem t127x {N : Mem} (h : N 6 127 = 0) (c : Int32) : mst (E0 N) 0 0 c 6 127 = 0 := by rw [mst_no (by decide)]; exact t127 h
theorem RZ.sr {d : Int32} {ρ : Nat → Int32} {M N : Mem} (h : RZ d ρ M N) : SR d ρ N := h.1.2.2.1
theorem st_rom {M N : Mem} (h : KF M N) (b a k : Int32) (w : Int64) : St_rom M N b a k w KF := by
  obtain ⟨d, ρ, sM, rz, tz⟩ := h
  unfold St_rom
  by_cases h1 : k < (1 : Int32)
  · exact Or.inr (wX1_rom (Or.inl h1) ⟨Or.inl rfl, wRx1_rom (Or.inl (Or.inl h1)) (⟨mst_eq, ⟨d, ρ, sM, rz.x 1, t127x tz 1⟩⟩)⟩)
  by_cases h2 : k ≤ (8 : Int32)
  rotate_left
  · exact Or.inr (wX1_rom (Or.inr (Or.inl h2)) ⟨Or.inl rfl, wRx1_rom (Or.inl (Or.inr (nlt h2))) (⟨mst_eq, ⟨d, ρ, sM, rz.x 1, t127x tz 1⟩⟩)⟩)
  by_cases h3 : b < 0
  · exact Or.inr (wX1_rom (Or.inr (Or.inr (Or.inl h3))) ⟨Or.inl rfl, wRx1_rom (Or.inr (Or.inl h3)) (⟨mst_eq, ⟨d, ρ, sM, rz.x 1, t127x tz 1⟩⟩)⟩)
  by_cases h4 : b < (8 : Int32)
  rotate_left
  · exact Or.inr (wX1_rom (Or.inr (Or.inr (Or.inr h4))) ⟨Or.inl rfl, wRx1_rom (Or.inr (Or.inr (nlt87 h4))) (⟨mst_eq, ⟨d, ρ, sM, rz.x 1, t127x tz 1⟩⟩)⟩)
  by_cases h5 : a < 0
  · exact Or.inr (wX2_rom h1 h2 h3 h4 (Or.inl h5) ⟨Or.inr rfl, wRx2_rom h1 (len h2) h3 (lt87 h4) (Or.inl h5) (⟨mst_eq, ⟨d, ρ, sM, rz.x 2, t127x tz 2⟩⟩)⟩)
  by_cases h6 : a ≤ (1024 : Int32) - k
  rotate_left
  · exact Or.inr (wX2_rom h1 h2 h3 h4 (Or.inr h6) ⟨Or.inr rfl, wRx2_rom h1 (len h2) h3 (lt87 h4) (Or.inr (nlt h6)) (⟨mst_eq, ⟨d, ρ, sM, rz.x 2, t127x tz 2⟩⟩)⟩)
  have hk := k18 h1 h2
  have hb : 0 ≤ b.toInt ∧ b.toInt < 8 := ⟨nn0 h3, ti_lt.mp h4⟩
  have ha := nn0 h5
  have hak : a.toInt + k.toInt ≤ 1024 := by
    have h7 := le_ti h6
    rw [sub_ti hk (by decide)] at h7
    have h8 : (1024 : Int32).toInt = 1024 := by decide
    omega
  obtain ⟨r1, r2, r3, r4, ⟨ρ2, s1, s2⟩, r6, r7⟩ := rom_loop (w := w) hb ha hk.2 hak 9 d ρ 0 M (E0 N) (by decide) (by decide) (by decide) sM rz.e0.sr
  exact Or.inl (wT_rom h1 h2 h3 h4 h5 h6 r1 (wR_rom h1 (len h2) h3 (lt87 h4) h5 (len h6) r2 (⟨(r7 0 0 (by decide)).trans (E0_0 N), r3.trans r4.symm, ⟨d, ρ2, s1, rom_z rz.e0 s1 s2 r6 r7, (r7 6 127 (by decide)).trans (t127 tz)⟩⟩)))
theorem st_insert {M N : Mem} (h : KF M N) (k : Int32) : St_insert M N k KF := by
  obtain ⟨d, ρ, sM, rz, tz⟩ := h
  unfold St_insert
  by_cases h1 : k < 0
  · exact Or.inr (wX1_insert (Or.inl h1) ⟨Or.inl rfl, wRx1_insert (Or.inl h1) (⟨mst_eq, ⟨d, ρ, sM, rz.x 1, t127x tz 1⟩⟩)⟩)
  by_cases h2 : k ≤ (3 : Int32)
  rotate_left
  · exact Or.inr (wX1_insert (Or.inr h2) ⟨Or.inl rfl, wRx1_insert (Or.inr (nlt h2)) (⟨mst_eq, ⟨d, ρ, sM, rz.x 1, t127x tz 1⟩⟩)⟩)
  have okh := (so_K_headerAgrees M sM).1
  have hv := hdT sM.2.2.2.2
  have sN := rz.sr
  have hN : N 1 = ρ := sN.2.2.2.2
  by_cases hh : hdr ρ
  rotate_left
  · rw [if_neg hh] at hv
    exact Or.inr (wX2_insert h1 h2 okh hv ⟨Or.inr rfl, wRx2_insert h1 (len h2) (by rw [hN]; exact hh) (⟨mst_eq, ⟨d, ρ, sM, rz.x 2, t127x tz 2⟩⟩)⟩)
  rw [if_pos hh] at hv
  have s1 : SC d ρ (mst (mst M 1 2 (1 : Int32)) 1 3 k) := SC.s1 (SC.s1 sM (by decide)) (by decide)
  have s2 : SR d ρ (mst (mst (E0 N) 0 8 (1 : Int32)) 0 10 k) := SR.sf (SR.sf sN.e0 (by decide) (any_rng _)) (by decide) (any_rng _)
  have t1 := so_T_startAnew _ s1
  have t2 := so_R_reset _ s2
  have z127 : mst (mst (E0 N) 0 8 (1 : Int32)) 0 10 k 6 127 = 0 := by rw [mst_no (by decide), mst_no (by decide)]; exact t127 tz
  have hk4 : 0 ≤ k.toInt ∧ k.toInt < 4 := ⟨nn0 h1, by have := le_ti h2; have h9 : (3 : Int32).toInt = 3 := by decide
                                                      omega⟩
  obtain ⟨⟨⟨hA, hC, hP⟩, ⟨g1, g2, g3⟩, -, fz, dr, hd⟩, ⟨q1, q2, q3, q4, q5⟩, hb, hi⟩ := rz.e0
  have z := anew_z (d := d) (ρ := ρ) (M := mst (mst M 1 2 (1 : Int32)) 1 3 k) (N := mst (mst (E0 N) 0 8 (1 : Int32)) 0 10 k) (hA.c (fun c hc => by rw [mst_no (by omega), mst_no (by omega)]) (fun c h1 _ => by rw [mst_no (by omega), mst_no (by omega)])) (by rw [mst_no (by decide), mst_no (by decide), mst_no (by decide), mst_no (by decide)]; exact q1) (by rw [mst_no (by decide), mst_no (by decide), mst_no (by decide), mst_no (by decide)]; exact g1) (by rw [mst_no (c := 1) (by decide), mst_no (c := 1) (by decide), mst_ne (by decide), mst_ne (by decide)]; exact hP.g (by decide)) (by rw [mst_ne (by decide), mst_eq, mst_ne (by decide), mst_eq]) (by rw [mst_eq, mst_eq]) (by rw [mst_ne (by decide), mst_eq]; exact Or.inr rfl) (by rw [mst_eq]; exact hk4) (by rw [mst_ne (by decide), mst_eq]; exact fun e => absurd e (by decide)) z127 s2 hd
  exact Or.inl (wT_insert h1 h2 okh (by rw [hv]; decide) t1.1 (wR_insert h1 (len h2) (by rw [hN]; exact hh) t2.1 (⟨er_R_reset _ (er_mst (er_mst (E0_0 N) (Or.inr (by decide))) (Or.inr (by decide))), rfl, ⟨d, ρ, t1.2, z, ez_R_reset _ z127⟩⟩)))
theorem l2_7 (P : Mem → Prop) (hc : ∀ X, P X → P (f_R_cycle_m X)) : ∀ (k : Nat) (N : Mem), P N → P (cycN k N) := by
  intro k
  induction k with
  | zero => intro N h; exact h
  | succ k ih => intro N h; rw [cycN_s]; exact ih _ (hc _ h)
theorem run_127 {a : Int32} : ∀ (n : Nat) (all x : Int32) (N : Mem), N 6 127 = 0 → f_R_run_l1_m a n all x N 6 127 = 0 := by
  have l2 : ∀ (all x : Int32) (K : Int32 → Int32 → Mem → Mem), (∀ p q X, X 6 127 = 0 → K p q X 6 127 = 0) → ∀ (n : Nat) (i : Int32) (N : Mem), N 6 127 = 0 → f_R_run_l2_m all x K n i N 6 127 = 0 := by
    intro all x K hK n
    induction n with
    | zero => intro i N h; rfl
    | succ n ih =>
      intro i N h
      rw [f_R_run_l2_m_s]; (try dsimp only)
      split
      · exact hK _ _ _ h
      · exact ih _ _ (ez_R_cycle N h)
  have fl : ∀ (X : Mem) (i c : Int32), X 6 127 = 0 → f_R_fails_m X i c 6 127 = 0 := by
    intro X i c h
    unfold f_R_fails_m f_R_fails_j1_m f_R_fails_j2_m; (try dsimp only)
    repeat' split
    all_goals first | exact h | (rw [mst_no (by decide)]; exact h)
  intro n
  induction n with
  | zero => intro all x N h; rfl
  | succ n ih =>
    intro all x N h
    have j4 : ∀ v : Int32, f_R_run_j4_m all x (f_R_step_m N) (f_R_run_l1_m a n) v 6 127 = 0 := by
      intro v
      unfold f_R_run_j4_m; (try dsimp only)
      split
      · exact l2 _ _ _ (fun p q X hX => ih p q X hX) _ _ _ (fl _ _ _ (ez_R_step N h))
      · exact fl _ _ _ (ez_R_step N h)
    rw [f_R_run_l1_m_s]; (try dsimp only)
    repeat' split
    · exact h
    · exact j4 _
    · exact j4 _
theorem st_run {M N : Mem} (h : KF M N) (a : Int32) : St_run M N a KF := by
  obtain ⟨d, ρ, sM, rz, tz⟩ := h
  unfold St_run
  have e8 : M 1 2 = N 0 8 := rz.1.1.2.1.1
  have e5 : M 5 5 = N 0 23 := rz.2.1.2.2.2.2
  by_cases h1 : a < (1 : Int32)
  · exact Or.inr (wX1_run (Or.inl h1) ⟨Or.inl rfl, wRx1_run (Or.inl h1) ⟨mst_eq, ⟨d, ρ, sM, rz.x 1, t127x tz 1⟩⟩⟩)
  by_cases h2 : a ≤ (100 : Int32)
  rotate_left
  · exact Or.inr (wX1_run (Or.inr h2) ⟨Or.inl rfl, wRx1_run (Or.inr (nlt h2)) ⟨mst_eq, ⟨d, ρ, sM, rz.x 1, t127x tz 1⟩⟩⟩)
  by_cases h3 : M 1 2 = 0
  · exact Or.inr (wX2_run h1 h2 h3 ⟨Or.inr (Or.inl rfl), wRx2_run h1 (len h2) (e8 ▸ h3) ⟨mst_eq, ⟨d, ρ, sM, rz.x 2, t127x tz 2⟩⟩⟩)
  have n3 : ¬ N 0 8 = 0 := fun e => h3 (e8.trans e)
  by_cases h4 : N 0 23 = 0
  rotate_left
  · have m5 : ¬ M 5 5 = 0 := fun e => h4 (e5 ▸ e)
    have na : ¬ a ≤ (0 : Int32) := by
      rw [ti_lt] at h1; rw [ti_le]
      have e1 : (1 : Int32).toInt = 1 := by decide
      have e0 : (0 : Int32).toInt = 0 := by decide
      omega
    refine Or.inr (wX3_run h1 h2 h3 ⟨fun h => absurd h na, fun _ => ⟨fun _ => ⟨fun h => absurd h m5, fun _ => trivial⟩, fun h => absurd h m5⟩⟩ ?_)
    rw [f_TX_run_l1_v_s, f_TX_run_l1_m_s]; unfold f_TX_run_j2_v f_TX_run_j2_m; (try dsimp only)
    rw [if_neg na, if_neg m5, if_neg m5, if_neg na, if_neg m5, if_neg m5]
    exact ⟨Or.inr (Or.inr rfl), wRx3_run h1 (len h2) n3 h4 ⟨mst_eq, ⟨d, ρ, sM, rz.x 3, t127x tz 3⟩⟩⟩
  have ha : a.toInt ≤ 100 := by have := le_ti h2; exact this
  have h4e : E0 N 0 23 = 0 := by show mst N 0 0 0 0 23 = 0; rw [mst_ne (by decide)]; exact h4
  have okR := so_R_run_l1 (d := d) (ρ := ρ) (Q := fun _ M' => SR d ρ M') a ha (fun _ _ h => h) 101 0 0 (E0 N) rz.e0.sr (by decide) (by decide) (by decide)
  have z7 := run_127 (a := a) 101 0 0 (E0 N) (t127 tz)
  rcases run_z (x10 := M 5 0) ha 101 0 0 M (E0 N) (by decide) (by decide) (by decide) sM rz.e0 h4e (E0_0 N) (Int32.add_zero _).symm with ⟨r1, r2, r3, r4, r5⟩ | ⟨r1, r2, r3, r4, r5⟩
  · exact Or.inl (wT_run h1 h2 h3 r1 (wR_run h1 (len h2) n3 h4 okR.1 ⟨r4, r5, ⟨d, ρ, r2, r3, z7⟩⟩))
  · exact Or.inr (wX3_run h1 h2 h3 r1 ⟨Or.inr (Or.inr r3), wR_run h1 (len h2) n3 h4 okR.1 ⟨by rw [r3]; exact r5, ⟨d, ρ, r2, r4, z7⟩⟩⟩)
theorem set127 {N : Mem} (a v : Int32) (h : N 6 127 = 0) : setR N a v 6 127 = 0 ∧ setR N a v 0 0 = N 0 0 := by
  unfold setR; repeat' split
  all_goals first
    | exact ⟨by rw [mst_no (by decide)]; exact h, by rw [mst_no (by decide)]⟩
    | exact ⟨by rw [mst_no (by decide)]; exact h, by rw [mst_ne (by decide)]⟩
theorem st_set {M N : Mem} (h : KF M N) (a v : Int32) : St_set M N a v KF := by
  obtain ⟨d, ρ, sM, rz, tz⟩ := h
  unfold St_set
  by_cases h1 : a < 0
  · exact Or.inr (wX_set (Or.inl h1) ⟨rfl, wRx_set (Or.inl h1) ⟨mst_eq, ⟨d, ρ, sM, rz.x 1, t127x tz 1⟩⟩⟩)
  by_cases h2 : a ≤ (9 : Int32)
  rotate_left
  · exact Or.inr (wX_set (Or.inr h2) ⟨rfl, wRx_set (Or.inr (nlt h2)) ⟨mst_eq, ⟨d, ρ, sM, rz.x 1, t127x tz 1⟩⟩⟩)
  have t1 := so_Q_valueOf M a sM
  have t2 := so_Q_put M a v sM
  have t3 := so_R_registerAt (E0 N) a rz.e0.sr ⟨nn0 h1, by have := le_ti h2; exact this⟩
  exact Or.inl (wT_set h1 h2 ⟨t1.1, t2.1⟩ (wR_set h1 (len h2) t3.1 ⟨(set127 a v (t127 tz)).2.trans (E0_0 N), reg_s rz.e0.1 h1 h2, ⟨d, ρ, t2.2, set_z rz.e0 h1 h2, (set127 a v (t127 tz)).1⟩⟩))
theorem st_register {M N : Mem} (h : KF M N) (a : Int32) : St_register M N a KF := by
  obtain ⟨d, ρ, sM, rz, tz⟩ := h
  unfold St_register
  by_cases h1 : a < 0
  · exact Or.inr (wX_register (Or.inl h1) ⟨rfl, wRx_register (Or.inl h1) ⟨mst_eq, ⟨d, ρ, sM, rz.x 1, t127x tz 1⟩⟩⟩)
  by_cases h2 : a ≤ (9 : Int32)
  rotate_left
  · exact Or.inr (wX_register (Or.inr h2) ⟨rfl, wRx_register (Or.inr (nlt h2)) ⟨mst_eq, ⟨d, ρ, sM, rz.x 1, t127x tz 1⟩⟩⟩)
  have t3 := so_R_registerAt (E0 N) a rz.e0.sr ⟨nn0 h1, by have := le_ti h2; exact this⟩
  exact Or.inl (wT_register h1 h2 (so_Q_valueOf M a sM).1 (wR_register h1 (len h2) t3.1 ⟨E0_0 N, reg_s rz.e0.1 h1 h2, ⟨d, ρ, sM, rz.e0, t127 tz⟩⟩))
theorem st_read {M N : Mem} (h : KF M N) (a : Int32) : St_read M N a KF := by
  obtain ⟨d, ρ, sM, rz, tz⟩ := h
  unfold St_read
  by_cases h1 : a < 0
  · exact Or.inr (wX_read (Or.inl h1) ⟨rfl, wRx_read (Or.inl h1) ⟨mst_eq, ⟨d, ρ, sM, rz.x 1, t127x tz 1⟩⟩⟩)
  by_cases h2 : a ≤ (65535 : Int32)
  rotate_left
  · exact Or.inr (wX_read (Or.inr h2) ⟨rfl, wRx_read (Or.inr (nlt h2)) ⟨mst_eq, ⟨d, ρ, sM, rz.x 1, t127x tz 1⟩⟩⟩)
  have ha : w16 a := ⟨nn0 h1, by have h9 := le_ti h2; have h8 : (65535 : Int32).toInt = 65535 := by decide
                                 omega⟩
  have t3 := so_R_get (E0 N) a rz.e0.sr ha
  have hd : oct (E0 N 0 25) := by rw [rz.e0.sr.2.2.2.1]; exact rz.1.2.2.2.2.2
  exact Or.inl (wT_read h1 h2 (so_Y_load M a sM).1 (wR_read h1 (len h2) t3.1 ⟨E0_0 N, ld rz.e0.1.1 hd ha, ⟨d, ρ, sM, rz.e0, t127 tz⟩⟩))
theorem st_write {M N : Mem} (h : KF M N) (a k : Int32) (w : Int64) : St_write M N a k w KF := by
  obtain ⟨d, ρ, sM, rz, tz⟩ := h
  unfold St_write
  by_cases h1 : k < (1 : Int32)
  · exact Or.inr (wX_write (Or.inl h1) ⟨rfl, wRx_write (Or.inl (Or.inl h1)) (⟨mst_eq, ⟨d, ρ, sM, rz.x 1, t127x tz 1⟩⟩)⟩)
  by_cases h2 : k ≤ (8 : Int32)
  rotate_left
  · exact Or.inr (wX_write (Or.inr (Or.inl h2)) ⟨rfl, wRx_write (Or.inl (Or.inr (nlt h2))) (⟨mst_eq, ⟨d, ρ, sM, rz.x 1, t127x tz 1⟩⟩)⟩)
  by_cases h3 : a < 0
  · exact Or.inr (wX_write (Or.inr (Or.inr (Or.inl h3))) ⟨rfl, wRx_write (Or.inr (Or.inl h3)) (⟨mst_eq, ⟨d, ρ, sM, rz.x 1, t127x tz 1⟩⟩)⟩)
  by_cases h4 : a ≤ (65536 : Int32) - k
  rotate_left
  · exact Or.inr (wX_write (Or.inr (Or.inr (Or.inr h4))) ⟨rfl, wRx_write (Or.inr (Or.inr (nlt h4))) (⟨mst_eq, ⟨d, ρ, sM, rz.x 1, t127x tz 1⟩⟩)⟩)
  have hk := k18 h1 h2
  have hak : a.toInt + k.toInt ≤ 65536 := by
    have h7 := le_ti h4
    rw [sub_ti hk (by decide)] at h7
    have h8 : (65536 : Int32).toInt = 65536 := by decide
    omega
  have t1 := so_T_write_l1 (d := d) (ρ := ρ) (Q := fun _ M' => SC d ρ M') a k w hk.2 (fun _ _ h => h) 9 0 M sM (by decide) (by decide) (by decide)
  have t2 := so_R_write_l1 (d := d) (ρ := ρ) (Q := fun _ M' => SR d ρ M') a k w (nn0 h3) hak hk.2 (fun _ _ h => h) 9 0 (E0 N) rz.e0.sr (by decide) (by decide) (by decide)
  have z := write_z (w := w) (nn0 h3) hk.2 hak 9 0 M (E0 N) (by decide) (by decide) (by decide) rz.e0
  exact Or.inl (wT_write h1 h2 h3 h4 t1.1 (wR_write h1 (len h2) h3 (len h4) t2.1 (⟨er_R_write_l1 a k w 9 0 (E0 N) (E0_0 N), rfl, ⟨d, ρ, t1.2, z, ez_R_write_l1 a k w 9 0 (E0 N) (t127 tz)⟩⟩)))
theorem key127 {N : Mem} (a : Int32) (h : N 6 127 = 0) : keysR N a 6 127 = 0 := by
  unfold keysR; split
  · rw [mst_no (by decide)]; exact h
  · rw [mst_no (by decide), mst_no (by decide)]; exact h
theorem st_keys {M N : Mem} (h : KF M N) (a : Int32) : St_keys M N a KF := by
  obtain ⟨d, ρ, sM, rz, tz⟩ := h
  unfold St_keys
  by_cases h1 : a < 0
  · exact Or.inr (wX_keys (Or.inl h1) ⟨rfl, wRx_keys (Or.inl h1) (⟨mst_eq, ⟨d, ρ, sM, rz.x 1, t127x tz 1⟩⟩)⟩)
  by_cases h2 : a ≤ (255 : Int32)
  rotate_left
  · exact Or.inr (wX_keys (Or.inr h2) ⟨rfl, wRx_keys (Or.inr (nlt h2)) (⟨mst_eq, ⟨d, ρ, sM, rz.x 1, t127x tz 1⟩⟩)⟩)
  have ha : oct a := ⟨nn0 h1, by have h9 := le_ti h2; have h8 : (255 : Int32).toInt = 255 := by decide
                                 omega⟩
  have z := keys_z rz.e0 ha
  have e25 : E0 N 0 25 = N 0 25 := by show mst N 0 0 0 0 25 = _; rw [mst_ne (by decide)]
  exact Or.inl (wT_keys h1 h2 (wR_keys h1 (len h2) (⟨keysR_e N a, z.2.trans e25, ⟨a, ρ, sM.press a, z.1, key127 a (t127 tz)⟩⟩)))
theorem st_pixel {M N : Mem} (h : KF M N) (a : Int32) : St_pixel M N a KF := by
  obtain ⟨d, ρ, sM, rz, tz⟩ := h
  unfold St_pixel
  by_cases h1 : a < 0
  · exact Or.inr (wX_pixel (Or.inl h1) ⟨rfl, wRx_pixel (Or.inl h1) ⟨mst_eq, ⟨d, ρ, sM, rz.x 1, t127x tz 1⟩⟩⟩)
  by_cases h2 : a < (160 : Int32)
  rotate_left
  · exact Or.inr (wX_pixel (Or.inr h2) ⟨rfl, wRx_pixel (Or.inr (n160 h2)) ⟨mst_eq, ⟨d, ρ, sM, rz.x 1, t127x tz 1⟩⟩⟩)
  have hi : vp_in a 160 := vp_iff.mpr ⟨nn0 h1, ti_lt.mp h2⟩
  exact Or.inl (wT_pixel h1 h2 hi (wR_pixel h1 (l160 h2) hi ⟨E0_0 N, by rw [rz.e0.2.1.1], ⟨d, ρ, sM, rz.e0, t127 tz⟩⟩))
theorem st_speed {M N : Mem} (h : KF M N) : St_speed M N KF := by
  obtain ⟨d, ρ, sM, rz, tz⟩ := h
  unfold St_speed
  have e0 : M 5 0 = N 0 47 := rz.2.1.2.1
  have e1 : M 2 1 = N 0 50 := rz.1.1.2.2.g (by decide)
  by_cases h1 : M 5 0 = 0
  · exact Or.inr (wX_speed h1 ⟨rfl, wRx_speed (e0 ▸ h1) ⟨mst_eq, ⟨d, ρ, sM, rz.x 1, t127x tz 1⟩⟩⟩)
  · exact Or.inl (wT_speed h1 (wR_speed (fun e => h1 (e0.trans e)) ⟨E0_0 N, by rw [e0, e1], ⟨d, ρ, sM, rz.e0, t127 tz⟩⟩))
theorem st_row {M N : Mem} (h : KF M N) (a : Int32) : St_row M N a KF := by
  obtain ⟨d, ρ, sM, rz, tz⟩ := h
  unfold St_row
  by_cases h1 : a < 0
  · exact Or.inr (wX_row (Or.inl h1) ⟨rfl, wRx_row (Or.inl h1) ⟨mst_eq, ⟨d, ρ, sM, rz.x 1, t127x tz 1⟩⟩⟩)
  by_cases h2 : a < (144 : Int32)
  rotate_left
  · exact Or.inr (wX_row (Or.inr h2) ⟨rfl, wRx_row (Or.inr (n144 h2)) ⟨mst_eq, ⟨d, ρ, sM, rz.x 1, t127x tz 1⟩⟩⟩)
  have t1 := so_S_make M a sM
  have t2 := so_R_row_l1 (d := d) (ρ := ρ) (Q := fun _ M' => SR d ρ M') a ⟨nn0 h1, ti_lt.mp h2⟩ (fun _ _ h => h) 161 0 0 (E0 N) rz.e0.sr (by decide) (by decide) (by decide)
  obtain ⟨z1, z2, z3, z4⟩ := row_z rz.e0 ⟨nn0 h1, ti_lt.mp h2⟩
  exact Or.inl (wT_row h1 h2 t1.1 (wR_row h1 (l144 h2) t2.1 ⟨er_R_row_l1 a 161 0 0 (E0 N) (E0_0 N), z1, ⟨d, ρ, t1.2, rz.e0.row z2 z3 z4 t2.2, ez_R_row_l1 a 161 0 0 (E0 N) (t127 tz)⟩⟩))
theorem SC0 : SC 0 (fun _ => 0) (fun _ _ => 0) := ⟨by decide, by decide, by decide, rfl, rfl⟩
set_option maxRecDepth 100000 in
theorem rng0 : ∀ k : Nat, rLo k ≤ (0 : Int32).toInt ∧ (0 : Int32).toInt < rHi k := by
  intro k
  by_cases h : k < 51
  · have h9 : ∀ j : Fin 51, rLo j.val ≤ (0 : Int32).toInt ∧ (0 : Int32).toInt < rHi j.val := by decide
    exact h9 ⟨k, h⟩
  · have e1 : rLo k = -2147483648 := by unfold rLo; rw [List.getD_eq_getElem?_getD, List.getElem?_eq_none (by simp; omega)]; rfl
    have e2 : rHi k = 2147483648 := by unfold rHi; rw [List.getD_eq_getElem?_getD, List.getElem?_eq_none (by simp; omega)]; rfl
    rw [e1, e2]; decide
theorem SR0 : SR 0 (fun _ => 0) (fun _ _ => 0) := ⟨fun _ _ _ _ => by show oct 0; decide, fun _ => by show oct 0; decide, fun k => rng0 k, rfl, rfl⟩
theorem KF0 : KF (f_T_startAnew_m (fun _ _ => 0)) (f_R_reset_m (fun _ _ => 0)) :=
  ⟨0, _, (so_T_startAnew _ SC0).2, anew_z ⟨rfl, rfl, rfl, rfl, rfl, rfl⟩ rfl rfl rfl rfl rfl (Or.inl rfl) (by decide) (fun _ => rfl) rfl SR0 (by decide), ez_R_reset _ rfl⟩
