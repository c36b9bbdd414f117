/-! A script at which count(1) differs: what both sides hold, call by call. -/
def K0 (M N : Mem) : Prop := KF M N ∧ ∀ j : Nat, M 6 j = 0
def K1 (M N : Mem) : Prop := KF M N ∧ ∀ j : Nat, M 6 j = if j = 333 then 231 else 0
def K2 (M N : Mem) : Prop := KF M N ∧ ∀ j : Nat, M 6 j = if j = 256 then 118 else if j = 333 then 231 else 0
def K3 (M N : Mem) : Prop := KF M N ∧ M 1 2 = 1 ∧ M 5 5 = 0 ∧ M 5 4 = 0 ∧ M 5 3 = 0 ∧ M 5 9 = 0 ∧ M 5 8 = 256 ∧ M 8 255 = 0 ∧ M 5 1 = 0 ∧ M 6 256 = 118 ∧ N 0 48 = 0
def K4 (M N : Mem) : Prop := KF M N ∧ M 1 2 = 1 ∧ M 5 5 = 0 ∧ M 5 4 = 1 ∧ M 8 255 = 0 ∧ M 5 1 = 1 ∧ N 0 48 = 1
def K5 (M N : Mem) : Prop := KF M N ∧ M 5 1 = 1 ∧ N 0 48 = 2
theorem r_oct1 (M : Mem) : f_T_octetOf_v M (lw_J 0 231) 0 = 231 := by unfold f_T_octetOf_v lw_J; decide +kernel
theorem r_oct2 (M : Mem) : f_T_octetOf_v M (lw_J 0 118) 0 = 118 := by unfold f_T_octetOf_v lw_J; decide +kernel
theorem r_up (M : Mem) (k : Nat) (v : Int32) (j : Nat) : mst M 6 k v 6 j = if j = k then v else M 6 j := by
  unfold mst upd; rw [if_pos rfl]
theorem r_e1 (M : Mem) : f_T_rom_l1_m 0 333 1 (lw_J 0 231) 9 0 M = mst M 6 333 231 := by
  rw [f_T_rom_l1_m_s]; (try dsimp only)
  rw [if_neg (by decide), f_T_rom_l1_m_s]; (try dsimp only)
  rw [if_pos (by decide), r_oct1, show ((((0 : Int32) * (1024 : Int32)) + (333 : Int32)) + (0 : Int32)).toNatClampNeg = 333 from by decide]
theorem r_e2 (M : Mem) : f_T_rom_l1_m 0 256 1 (lw_J 0 118) 9 0 M = mst M 6 256 118 := by
  rw [f_T_rom_l1_m_s]; (try dsimp only)
  rw [if_neg (by decide), f_T_rom_l1_m_s]; (try dsimp only)
  rw [if_pos (by decide), r_oct2, show ((((0 : Int32) * (1024 : Int32)) + (256 : Int32)) + (0 : Int32)).toNatClampNeg = 256 from by decide]
theorem rf_rom1 {M N : Mem} (h : K0 M N) : St_rom M N 0 333 1 (lw_J 0 231) K1 := by
  obtain ⟨⟨d, ρ, sM, rz, tz⟩, h6⟩ := h
  unfold St_rom
  obtain ⟨r1, r2, r3, r4, ⟨ρ2, s1, s2⟩, r6, r7⟩ := rom_loop (b := 0) (a := 333) (k := 1) (w := lw_J 0 231) (by decide) (by decide) (by decide) (by decide) 9 d ρ 0 M (E0 N) (by decide) (by decide) (by decide) sM rz.e0.sr
  have kf : KF (f_T_rom_l1_m 0 333 1 (lw_J 0 231) 9 0 M) (f_R_rom_l1_m 0 333 1 (lw_J 0 231) 9 0 (E0 N)) := ⟨d, ρ2, s1, rom_z rz.e0 s1 s2 r6 r7, (r7 6 127 (by decide)).trans (t127 tz)⟩
  have k1 : K1 (f_T_rom_l1_m 0 333 1 (lw_J 0 231) 9 0 M) (f_R_rom_l1_m 0 333 1 (lw_J 0 231) 9 0 (E0 N)) := ⟨kf, fun j => by rw [r_e1, r_up, h6]⟩
  exact Or.inl (wT_rom (by decide) (by decide) (by decide) (by decide) (by decide) (by decide) r1 (wR_rom (by decide) (by decide) (by decide) (by decide) (by decide) (by decide) r2 ⟨(r7 0 0 (by decide)).trans (E0_0 N), r3.trans r4.symm, k1⟩))
theorem rf_rom2 {M N : Mem} (h : K1 M N) : St_rom M N 0 256 1 (lw_J 0 118) K2 := by
  obtain ⟨⟨d, ρ, sM, rz, tz⟩, h6⟩ := h
  unfold St_rom
  obtain ⟨r1, r2, r3, r4, ⟨ρ2, s1, s2⟩, r6, r7⟩ := rom_loop (b := 0) (a := 256) (k := 1) (w := lw_J 0 118) (by decide) (by decide) (by decide) (by decide) 9 d ρ 0 M (E0 N) (by decide) (by decide) (by decide) sM rz.e0.sr
  have kf : KF (f_T_rom_l1_m 0 256 1 (lw_J 0 118) 9 0 M) (f_R_rom_l1_m 0 256 1 (lw_J 0 118) 9 0 (E0 N)) := ⟨d, ρ2, s1, rom_z rz.e0 s1 s2 r6 r7, (r7 6 127 (by decide)).trans (t127 tz)⟩
  have k1 : K2 (f_T_rom_l1_m 0 256 1 (lw_J 0 118) 9 0 M) (f_R_rom_l1_m 0 256 1 (lw_J 0 118) 9 0 (E0 N)) := ⟨kf, fun j => by rw [r_e2, r_up, h6]⟩
  exact Or.inl (wT_rom (by decide) (by decide) (by decide) (by decide) (by decide) (by decide) r1 (wR_rom (by decide) (by decide) (by decide) (by decide) (by decide) (by decide) r2 ⟨(r7 0 0 (by decide)).trans (E0_0 N), r3.trans r4.symm, k1⟩))
/-- the header of that ROM agrees -/
def rR : Nat → Int32 := fun j => if j = 256 then 118 else if j = 333 then 231 else 0
theorem r_hdr : hdr rR := by
  have h := hdT (M := fun _ => rR) (ρ := rR) rfl
  have e : f_K_headerAgrees_v (fun _ => rR) = 1 := by decide +kernel
  rw [e] at h
  by_cases x : hdr rR
  · exact x
  · rw [if_neg x] at h; exact absurd h (by decide)
theorem q5_1 (X : Mem) : f_Q_reset_m X 5 1 = 0 ∧ f_Q_reset_m X 5 5 = 0 ∧ f_Q_reset_m X 5 4 = 0 ∧ f_Q_reset_m X 5 3 = 0 ∧ f_Q_reset_m X 5 9 = 0 ∧ f_Q_reset_m X 5 8 = 256 := by
  unfold f_Q_reset_m; (try dsimp only)
  refine ⟨?_, ?_, ?_, ?_, ?_, ?_⟩
  · rw [mst_ne (by decide), mst_eq]
  · rw [mst_ne (by decide), mst_ne (by decide), mst_ne (by decide), mst_ne (by decide), mst_eq]
  · rw [mst_ne (by decide), mst_ne (by decide), mst_ne (by decide), mst_ne (by decide), mst_ne (by decide), mst_eq]
  · rw [mst_ne (by decide), mst_ne (by decide), mst_ne (by decide), mst_ne (by decide), mst_ne (by decide), mst_ne (by decide), mst_eq]
  · rw [mst_ne (by decide), mst_ne (by decide), mst_ne (by decide), mst_eq]
  · rw [mst_ne (by decide), mst_ne (by decide), mst_ne (by decide), mst_ne (by decide), mst_ne (by decide), mst_ne (by decide), mst_ne (by decide), mst_eq]
theorem b48 (N : Mem) : f_R_reset_m N 0 48 = 0 := by
  unfold f_R_reset_m; (try dsimp only); generalize f_R_zeros7_m (f_R_zeros6_m (f_R_zeros5_m (f_R_zeros4_m (f_R_zeros3_m N)))) = Z
  rw [mst_ne (by decide), mst_ne (by decide), mst_eq]
theorem rf_ins {M N : Mem} (h : K2 M N) : St_insert M N 0 K3 := by
  obtain ⟨⟨d, ρ, sM, rz, tz⟩, h6⟩ := h
  unfold St_insert
  have okh := (so_K_headerAgrees M sM).1
  have e6 : M 6 = rR := funext h6
  have hρ : ρ = rR := sM.2.2.2.2.symm.trans e6
  have sN := rz.sr
  have hN : N 1 = ρ := sN.2.2.2.2
  have hh : hdr ρ := by rw [hρ]; exact r_hdr
  have hv := hdT sM.2.2.2.2
  rw [if_pos hh] at hv
  have s1 : SC d ρ (mst (mst M 1 2 (1 : Int32)) 1 3 0) := SC.s1 (SC.s1 sM (by decide)) (by decide)
  have s2 : SR d ρ (mst (mst (E0 N) 0 8 (1 : Int32)) 0 10 0) := SR.sf (SR.sf sN.e0 (by decide) (any_rng _)) (by decide) (any_rng _)
  have t1 := so_T_startAnew _ s1
  have t2 := so_R_reset _ s2
  have z127 : mst (mst (E0 N) 0 8 (1 : Int32)) 0 10 0 6 127 = 0 := by rw [mst_no (by decide), mst_no (by decide)]; exact t127 tz
  obtain ⟨⟨⟨hA, hC, hP⟩, ⟨g1, g2, g3⟩, -, fz, dr, hd⟩, ⟨q1, q2, q3, q4, q5⟩, hb, hi⟩ := rz.e0
  have z := anew_z (d := d) (ρ := ρ) (M := mst (mst M 1 2 (1 : Int32)) 1 3 0) (N := mst (mst (E0 N) 0 8 (1 : Int32)) 0 10 0) (hA.c (fun c hc => by rw [mst_no (by omega), mst_no (by omega)]) (fun c h1 _ => by rw [mst_no (by omega), mst_no (by omega)])) (by rw [mst_no (by decide), mst_no (by decide), mst_no (by decide), mst_no (by decide)]; exact q1) (by rw [mst_no (by decide), mst_no (by decide), mst_no (by decide), mst_no (by decide)]; exact g1) (by rw [mst_no (c := 1) (by decide), mst_no (c := 1) (by decide), mst_ne (by decide), mst_ne (by decide)]; exact hP.g (by decide)) (by rw [mst_ne (by decide), mst_eq, mst_ne (by decide), mst_eq]) (by rw [mst_eq, mst_eq]) (by rw [mst_ne (by decide), mst_eq]; exact Or.inr rfl) (by rw [mst_eq]; decide) (by rw [mst_ne (by decide), mst_eq]; exact fun e => absurd e (by decide)) z127 s2 hd
  have kf : KF (f_T_startAnew_m (mst (mst M 1 2 (1 : Int32)) 1 3 0)) (f_R_reset_m (mst (mst (E0 N) 0 8 (1 : Int32)) 0 10 0)) := ⟨d, ρ, t1.2, z, ez_R_reset _ z127⟩
  have q := q5_1 (f_S_reset_m (f_Y_reset_m (f_P_reset_m (f_K_reset_m (mst (mst M 1 2 (1 : Int32)) 1 3 0)))))
  rw [← t_eq] at q
  have m12 : f_T_startAnew_m (mst (mst M 1 2 (1 : Int32)) 1 3 0) 1 2 = 1 := by
    rw [z.1.1.2.1.1, r0_8, mst_ne (by decide), mst_eq]
  have m255 : f_T_startAnew_m (mst (mst M 1 2 (1 : Int32)) 1 3 0) 8 255 = 0 := by
    rw [z.1.1.2.2.g (c := 8) (k := 255) (j := 32) (by decide), r0_32]
  have m6 : f_T_startAnew_m (mst (mst M 1 2 (1 : Int32)) 1 3 0) 6 256 = 118 := by
    rw [t1.2.2.2.2.2, hρ]; decide
  have k3 : K3 (f_T_startAnew_m (mst (mst M 1 2 (1 : Int32)) 1 3 0)) (f_R_reset_m (mst (mst (E0 N) 0 8 (1 : Int32)) 0 10 0)) := ⟨kf, m12, q.2.1, q.2.2.1, q.2.2.2.1, q.2.2.2.2.1, q.2.2.2.2.2, m255, q.1, m6, b48 _⟩
  exact Or.inl (wT_insert (by decide) (by decide) okh (by rw [hv]; decide) t1.1 (wR_insert (by decide) (by decide) (by rw [hN]; exact hh) t2.1 ⟨er_R_reset _ (er_mst (er_mst (E0_0 N) (Or.inr (by decide))) (Or.inr (by decide))), rfl, k3⟩))
/-- one instruction on both sides, where nothing LOCKS: the run is the step -/
theorem rf_run {M N : Mem} {K : Mem → Mem → Prop} (h : KF M N) (h12 : M 1 2 = 1) (h55 : M 5 5 = 0) (hs5 : f_Q_step_m M 5 5 = 0) (hv : f_R_step_v (E0 N) = 1) (h20 : f_R_step_m (E0 N) 0 20 = 1) (hK : KF (f_Q_step_m M) (f_R_cycle_m (f_R_step_m (E0 N))) → K (f_Q_step_m M) (f_R_cycle_m (f_R_step_m (E0 N)))) : St_run M N 1 K := by
  obtain ⟨d, ρ, sM, rz, tz⟩ := h
  unfold St_run
  have e8 : M 1 2 = N 0 8 := rz.1.1.2.1.1
  have e5 : M 5 5 = N 0 23 := rz.2.1.2.2.2.2
  have h4 : N 0 23 = 0 := e5.symm.trans h55
  have n3 : ¬ N 0 8 = 0 := fun e => by rw [h12, e] at e8; exact absurd e8 (by decide)
  have h4e : E0 N 0 23 = 0 := by show mst N 0 0 0 0 23 = 0; rw [mst_ne (by decide)]; exact h4
  have okR := so_R_run_l1 (d := d) (ρ := ρ) (Q := fun _ M' => SR d ρ M') 1 (by decide) (fun _ _ h => h) 101 0 0 (E0 N) rz.e0.sr (by decide) (by decide) (by decide)
  have z7 := run_127 (a := 1) 101 0 0 (E0 N) (t127 tz)
  have eM : f_T_run_l1_m 1 (M 5 0) 101 0 M = f_Q_step_m M := by
    rw [f_T_run_l1_m_s]; (try dsimp only)
    rw [if_neg (by decide), if_pos h55]; unfold f_T_run_j2_m
    rw [if_pos hs5]; (try dsimp only)
    rw [f_T_run_l1_m_s]; (try dsimp only)
    rw [if_pos (by decide)]
  have e00 : f_R_step_m (E0 N) 0 0 = 0 := er_R_step (E0 N) (E0_0 N)
  have eN : f_R_run_l1_m 1 101 0 0 (E0 N) = f_R_cycle_m (f_R_step_m (E0 N)) := by
    rw [f_R_run_l1_m_s]; (try dsimp only)
    rw [if_neg (by decide), hv, if_neg (by decide)]; unfold f_R_run_j4_m; (try dsimp only)
    rw [flv0 e00, if_pos rfl, flm0, h20, show ((1 : Int32).toNatClampNeg + 1) = 2 from by decide, f_R_run_l2_m_s]; (try dsimp only)
    rw [h20, if_neg (by decide), f_R_run_l2_m_s]; (try dsimp only)
    rw [cy_cost, h20, if_pos (by decide), f_R_run_l1_m_s]; (try dsimp only)
    rw [if_pos (by decide)]
  rw [← eM, ← eN] at hK
  rcases run_z (x10 := M 5 0) (a := 1) (by decide) 101 0 0 M (E0 N) (by decide) (by decide) (by decide) sM rz.e0 h4e (E0_0 N) (Int32.add_zero _).symm with ⟨r1, r2, r3, r4, r5⟩ | ⟨r1, r2, r3, r4, r5⟩
  · have k := hK ⟨d, ρ, r2, r3, z7⟩
    exact Or.inl (wT_run (by decide) (by decide) (by rw [h12]; decide) r1 (wR_run (by decide) (by decide) n3 h4 okR.1 ⟨r4, r5, k⟩))
  · exfalso
    rw [eN, er_R_cycle _ e00] at r5
    exact absurd r5 (by decide)
/-- passing leaves what isn't the ports' -/
theorem pass_c {M : Mem} {c : Nat} (hc : ¬ c = 2 ∧ ¬ c = 8) : f_P_pass_m M 1 c = M c := by
  rw [pass_m M (by decide), show (1 : Int32).toInt.toNat = 1 from by decide, passN_s]
  show passOne M c = M c
  exact po_c M hc
theorem rf_halt {M N : Mem} (h : K3 M N) : St_run M N 1 K4 := by
  obtain ⟨kf, h12, h55, h54, h53, h59, h58, h255, h51, h6, h48⟩ := h
  have kf' := kf
  obtain ⟨d, ρ, sM, rz, tz⟩ := kf
  have rz0 := rz.e0
  obtain ⟨⟨hm, ⟨g1, g2, g3⟩, sN, fz, dr, hd⟩, ⟨q1, q2, q3, q4, q5⟩, hb, hi⟩ := rz0
  have e22 : E0 N 0 22 = 0 := q4.symm.trans h54
  have e23 : E0 N 0 23 = 0 := q5.symm.trans h55
  obtain ⟨-, -, i1, i2⟩ := hi e23
  have e21 : E0 N 0 21 = 0 := i1.symm.trans h53
  have e24 : E0 N 0 24 = 0 := by rw [h59, if_pos e21] at i2; exact i2.symm
  have e19 : E0 N 0 19 = 256 := g3.symm.trans h58
  have e32 : E0 N 0 32 = 0 := (hm.2.2.g (c := 8) (k := 255) (j := 32) (by decide)).symm.trans h255
  have e1 : E0 N 1 256 = 118 := by rw [← hm.1.1]; exact h6
  have e48 : E0 N 0 48 = 0 := by show mst N 0 0 0 0 48 = 0; rw [mst_ne (by decide)]; exact h48
  -- the class
  have sc : f_Q_step_m M = f_P_pass_m (mst (mst (mst (f_Q_fetch_m (mst (mst (mst M 5 10 0) 5 3 0) 5 9 0)) 5 4 1) 5 1 1) 5 0 ((M 5 0) + 1)) 1 := by
    have w0 : f_P_waiting_v M = 0 := by unfold f_P_waiting_v; rw [h255, Int32.zero_and, Int32.zero_and]
    unfold f_Q_step_m; (try dsimp only)
    rw [w0, if_pos rfl]; unfold f_Q_step_j1_m
    rw [if_pos rfl]; unfold f_Q_step_j3_m
    rw [mst_ne (by decide), h54, if_pos rfl, mst_ne (by decide), h53, if_pos rfl, mst_ne (by decide), h59, if_pos rfl]
    unfold f_Q_step_j4_m f_Q_step_j2_m; (try dsimp only)
    have fv : f_Q_fetch_v (mst (mst (mst M 5 10 0) 5 3 0) 5 9 0) = 118 := by
      unfold f_Q_fetch_v; (try dsimp only)
      rw [mst_ne (by decide), mst_ne (by decide), mst_ne (by decide), h58]
      unfold f_Y_load_v f_K_loadRom_v f_K_loadRom_j1_v; (try dsimp only)
      rw [if_neg (by decide), if_neg (by decide), mst_no (by decide), mst_no (by decide), mst_no (by decide), show ((((0 : Int32) * (1024 : Int32)) + ((256 : Int32) &&& (1023 : Int32)))).toNatClampNeg = 256 from by decide]; exact h6
    rw [fv, if_neg (by decide), if_pos (by decide), show (((118 : Int32) >>> ((3 : Int32) &&& (31 : Int32))) &&& (7 : Int32)) = 6 from by decide, show ((118 : Int32) &&& (7 : Int32)) = 6 from by decide]
    unfold f_Q_doCopy_m f_Q_doCopy_j1_m; (try dsimp only)
    rw [if_pos rfl, if_pos rfl]
    unfold f_Q_finish_m; (try dsimp only)
    have f5 : f_Q_fetch_m (mst (mst (mst M 5 10 0) 5 3 0) 5 9 0) 5 5 = 0 := by
      unfold f_Q_fetch_m; (try dsimp only)
      rw [mst_ne (by decide), mst_ne (by decide), mst_ne (by decide), mst_ne (by decide), mst_ne (by decide), h55]
    have f1 : f_Q_fetch_m (mst (mst (mst M 5 10 0) 5 3 0) 5 9 0) 5 1 = 0 := by
      unfold f_Q_fetch_m; (try dsimp only)
      rw [mst_ne (by decide), mst_ne (by decide), mst_ne (by decide), mst_ne (by decide), mst_ne (by decide), h51]
    have f0 : f_Q_fetch_m (mst (mst (mst M 5 10 0) 5 3 0) 5 9 0) 5 0 = M 5 0 := by
      unfold f_Q_fetch_m; (try dsimp only)
      rw [mst_ne (by decide), mst_ne (by decide), mst_ne (by decide), mst_ne (by decide), mst_ne (by decide)]
    have f10 : f_Q_fetch_m (mst (mst (mst M 5 10 0) 5 3 0) 5 9 0) 5 10 = 1 := by
      unfold f_Q_fetch_m; (try dsimp only)
      rw [mst_eq, mst_ne (by decide), mst_ne (by decide), mst_ne (by decide), mst_eq]; decide
    generalize f_Q_fetch_m (mst (mst (mst M 5 10 0) 5 3 0) 5 9 0) = F at f5 f1 f0 f10
    rw [mst_ne (by decide), f5, if_pos rfl, mst_ne (by decide), f1, mst_ne (by decide), mst_ne (by decide), f0, mst_ne (by decide), mst_ne (by decide), f10, mst_ne (by decide), mst_ne (by decide), mst_ne (by decide), f10, show (0 : Int32) + 1 = 1 from by decide]
  have s5 : ∀ j : Nat, f_Q_step_m M 5 j = mst (mst (mst (f_Q_fetch_m (mst (mst (mst M 5 10 0) 5 3 0) 5 9 0)) 5 4 1) 5 1 1) 5 0 ((M 5 0) + 1) 5 j := fun j => by rw [sc, pass_c (by decide)]
  have s1 : f_Q_step_m M 1 2 = 1 := by
    rw [sc, pass_c (by decide), mst_no (by decide), mst_no (by decide), mst_no (by decide)]; unfold f_Q_fetch_m; (try dsimp only)
    rw [mst_no (by decide), mst_no (by decide), mst_no (by decide), mst_no (by decide), mst_no (by decide), h12]
  have s55 : f_Q_step_m M 5 5 = 0 := by
    rw [s5, mst_ne (by decide), mst_ne (by decide), mst_ne (by decide)]; unfold f_Q_fetch_m; (try dsimp only)
    rw [mst_ne (by decide), mst_ne (by decide), mst_ne (by decide), mst_ne (by decide), mst_ne (by decide), h55]
  have s54 : f_Q_step_m M 5 4 = 1 := by rw [s5, mst_ne (by decide), mst_ne (by decide), mst_eq]
  have s51 : f_Q_step_m M 5 1 = 1 := by rw [s5, mst_ne (by decide), mst_eq]
  -- the reference
  have w1 : (((E0 N 0 32) &&& (E0 N 0 31)) &&& (31 : Int32)) = 0 := by rw [e32, Int32.zero_and, Int32.zero_and]
  have c22 : mst (E0 N) 0 20 0 0 22 = 0 := by rw [mst_ne (by decide)]; exact e22
  have nv : f_R_next_v (mst (mst (E0 N) 0 20 0) 0 24 0) = 118 := by
    unfold f_R_next_v f_R_reads_v f_R_get_v; (try dsimp only)
    rw [mst_ne (c := 0) (k := 24) (j := 0) (i := 19) (by decide), mst_ne (c := 0) (k := 20) (j := 0) (i := 19) (by decide), e19, show ((256 : Int32) &&& (65535 : Int32)) = 256 from by decide, if_neg (by decide), mst_no (by decide), mst_no (by decide), mst_no (by decide), show ((256 : Int32) &&& (1023 : Int32)).toNatClampNeg = 256 from by decide]; exact e1
  have c24 : mst (E0 N) 0 20 0 0 24 = 0 := by rw [mst_ne (by decide)]; exact e24
  have nm : f_R_next_m (mst (mst (E0 N) 0 20 0) 0 24 0) 0 23 = 0 ∧ f_R_next_m (mst (mst (E0 N) 0 20 0) 0 24 0) 0 20 = 1 ∧ f_R_next_m (mst (mst (E0 N) 0 20 0) 0 24 0) 0 48 = 0 := by
    unfold f_R_next_m f_R_reads_m; (try dsimp only)
    refine ⟨?_, ?_, ?_⟩
    · rw [mst_ne (by decide), mst_ne (by decide), mst_ne (by decide), mst_ne (by decide)]; exact e23
    · rw [mst_ne (by decide), mst_eq, mst_ne (by decide), mst_eq]; decide
    · rw [mst_ne (by decide), mst_ne (by decide), mst_ne (by decide), mst_ne (by decide)]; exact e48
  have sr : f_R_step_v (E0 N) = 1 ∧ f_R_step_m (E0 N) = mst (mst (f_R_next_m (mst (mst (E0 N) 0 20 0) 0 24 0)) 0 22 1) 0 48 1 := by
    unfold f_R_step_v f_R_step_m; (try dsimp only)
    rw [w1, if_pos rfl, if_pos rfl]; unfold f_R_step_j1_v f_R_step_j1_m; (try dsimp only)
    rw [c22, if_pos rfl, if_pos rfl, nv, c24, if_neg (by decide), if_pos rfl, if_neg (by decide), if_pos rfl]
    generalize f_R_next_m (mst (mst (E0 N) 0 20 0) 0 24 0) = X at nm
    unfold f_R_step_j2_v f_R_step_j2_m f_R_step_j3_v f_R_step_j3_m; (try dsimp only)
    rw [mst_ne (by decide), nm.1, if_pos rfl, if_pos rfl, if_pos rfl, if_pos rfl, mst_ne (by decide), nm.2.2]
    exact ⟨rfl, by rw [show (0 : Int32) + 1 = 1 from by decide]⟩
  have n20 : f_R_step_m (E0 N) 0 20 = 1 := by rw [sr.2, mst_ne (by decide), mst_ne (by decide)]; exact nm.2.1
  have n48 : f_R_cycle_m (f_R_step_m (E0 N)) 0 48 = 1 := by rw [cy_n _ (by unfold cyK; decide) (by decide), sr.2, mst_eq]
  have n32 : f_R_cycle_m (f_R_step_m (E0 N)) 0 32 = 0 := by
    rw [cy_n _ (by unfold cyK; decide) (by decide), sr.2, mst_ne (by decide), mst_ne (by decide)]; unfold f_R_next_m f_R_reads_m; (try dsimp only)
    rw [mst_ne (by decide), mst_ne (by decide), mst_ne (by decide), mst_ne (by decide)]; exact e32
  refine rf_run kf' h12 h55 s55 sr.1 n20 (fun kf => ⟨kf, s1, s55, s54, ?_, s51, n48⟩)
  obtain ⟨d', ρ', sM', rz', tz'⟩ := kf
  rw [rz'.1.1.2.2.g (c := 8) (k := 255) (j := 32) (by decide)]; exact n32
theorem rf_idle {M N : Mem} (h : K4 M N) : St_run M N 1 K5 := by
  obtain ⟨kf, h12, h55, h54, h255, h51, h48⟩ := h
  have kf' := kf
  obtain ⟨d, ρ, sM, rz, tz⟩ := kf
  have rz0 := rz.e0
  obtain ⟨⟨hm, ⟨g1, g2, g3⟩, sN, fz, dr, hd⟩, ⟨q1, q2, q3, q4, q5⟩, hb, hi⟩ := rz0
  have e22 : E0 N 0 22 = 1 := q4.symm.trans h54
  have e32 : E0 N 0 32 = 0 := (hm.2.2.g (c := 8) (k := 255) (j := 32) (by decide)).symm.trans h255
  have e48 : E0 N 0 48 = 1 := by show mst N 0 0 0 0 48 = 1; rw [mst_ne (by decide)]; exact h48
  have sc : f_Q_step_m M = f_P_pass_m (mst (mst M 5 10 0) 5 0 ((M 5 0) + 1)) 1 := by
    have w0 : f_P_waiting_v M = 0 := by unfold f_P_waiting_v; rw [h255, Int32.zero_and, Int32.zero_and]
    unfold f_Q_step_m; (try dsimp only)
    rw [w0, if_pos rfl]; unfold f_Q_step_j1_m
    rw [if_pos rfl]; unfold f_Q_step_j3_m
    rw [mst_ne (by decide), h54, if_neg (by decide)]; unfold f_Q_passHalted_m; (try dsimp only)
    rw [mst_ne (by decide)]
  have s55 : f_Q_step_m M 5 5 = 0 := by rw [sc, pass_c (by decide), mst_ne (by decide), mst_ne (by decide)]; exact h55
  have s51 : f_Q_step_m M 5 1 = 1 := by rw [sc, pass_c (by decide), mst_ne (by decide), mst_ne (by decide)]; exact h51
  have w1 : (((E0 N 0 32) &&& (E0 N 0 31)) &&& (31 : Int32)) = 0 := by rw [e32, Int32.zero_and, Int32.zero_and]
  have c22 : ¬ mst (E0 N) 0 20 0 0 22 = 0 := by rw [mst_ne (by decide), e22]; decide
  have sr : f_R_step_v (E0 N) = 1 ∧ f_R_step_m (E0 N) = mst (mst (mst (E0 N) 0 20 0) 0 48 2) 0 20 1 := by
    unfold f_R_step_v f_R_step_m; (try dsimp only)
    rw [w1, if_pos rfl, if_pos rfl]; unfold f_R_step_j1_v f_R_step_j1_m; (try dsimp only)
    rw [if_neg c22, if_neg c22, mst_ne (c := 0) (k := 20) (j := 0) (i := 48) (by decide), e48]
    exact ⟨rfl, by rw [show (1 : Int32) + 1 = 2 from by decide]⟩
  have n20 : f_R_step_m (E0 N) 0 20 = 1 := by rw [sr.2, mst_eq]
  have n48 : f_R_cycle_m (f_R_step_m (E0 N)) 0 48 = 2 := by rw [cy_n _ (by unfold cyK; decide) (by decide), sr.2, mst_ne (by decide), mst_eq]
  exact rf_run kf' h12 h55 s55 sr.1 n20 (fun kf => ⟨kf, s51, n48⟩)
/-- the last call: the answers differ -/
theorem rf_count {M N : Mem} (h : K5 M N) : wp_T_count M 1 (fun x => wp_R_count N 1 (fun b N' => N' 0 0 = 0 ∧ ¬ x = b)) := by
  obtain ⟨-, h1, h2⟩ := h
  have e48 : E0 N 0 48 = 2 := by show mst N 0 0 0 0 48 = 2; rw [mst_ne (by decide)]; exact h2
  have ev : f_R_count_v N 1 = 2 := by
    simp only [f_R_count_v, f_R_count_j1_v, in1 (N := mst N 0 0 0) (a := 1) (lo := 0) (hi := 8) (by decide) (by decide), flv0 (E0_0 N), flm0, one_ne, if_false, if_true]
    exact e48
  have et : f_T_count_v M 1 = 1 := by unfold f_T_count_v; rw [if_neg (by decide), if_pos rfl]; exact h1
  exact wT_count (by decide) (by decide) (wR_count (by decide) (by decide) ⟨E0_0 N, by rw [ev, et]; decide⟩)
theorem rf_start : K0 (f_T_startAnew_m (fun _ _ => 0)) (f_R_reset_m (fun _ _ => 0)) := by
  refine ⟨KF0, fun j => ?_⟩
  have t1 := so_T_startAnew (fun _ _ => 0) SC0
  rw [t1.2.2.2.2.2]
