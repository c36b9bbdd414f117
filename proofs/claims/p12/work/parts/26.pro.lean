set_option maxRecDepth 100000 in
theorem k_65 : Cond.classLink "TileConsoleLaw" 8 "TileConsole" ∈ WA := WAm 116 (by decide +kernel) (by decide +kernel)
set_option maxRecDepth 100000 in
theorem k_66 : Cond.instantiable "TileConsole" 5 ∈ WA := WAm 117 (by decide +kernel) (by decide +kernel)
set_option maxRecDepth 100000 in
theorem k_67 : Cond.initialized "TileConsole" ∈ WA := WAm 99 (by decide +kernel) (by decide +kernel)
set_option maxRecDepth 100000 in
theorem k_68 : Cond.methodLink "TileConsoleLaw" 60 ⟨"TileConsole", "<init>", "()V"⟩ ∈ WA := WAm 118 (by decide +kernel) (by decide +kernel)
set_option maxRecDepth 100000 in
theorem k_69 : Cond.classLink "TileConsoleLaw" 61 "TileConsoleModel" ∈ WA := WAm 901 (by decide +kernel) (by decide +kernel)
set_option maxRecDepth 100000 in
theorem k_70 : Cond.instantiable "TileConsoleModel" 51 ∈ WA := WAm 902 (by decide +kernel) (by decide +kernel)
set_option maxRecDepth 100000 in
theorem k_71 : Cond.initialized "TileConsoleModel" ∈ WA := WAm 106 (by decide +kernel) (by decide +kernel)
set_option maxRecDepth 100000 in
theorem k_72 : Cond.methodLink "TileConsoleLaw" 63 ⟨"TileConsoleModel", "<init>", "()V"⟩ ∈ WA := WAm 903 (by decide +kernel) (by decide +kernel)
set_option maxRecDepth 100000 in
theorem k_73 : Cond.arrayClass .long ∈ WA := WAm 1314 (by decide +kernel) (by decide +kernel)
set_option maxRecDepth 100000 in
theorem k_74 : Cond.arrayClass .double ∈ WA := WAm 1315 (by decide +kernel) (by decide +kernel)
theorem d_law_0 : decode code 0 = .ok (.new 8, 3) := by decide +kernel
theorem d_law_3 : decode code 3 = .ok (.dup, 1) := by decide +kernel
theorem d_law_4 : decode code 4 = .ok (.invokespecial 60, 3) := by decide +kernel
theorem d_law_7 : decode code 7 = .ok (.astore_n 1, 1) := by decide +kernel
theorem d_law_8 : decode code 8 = .ok (.new 61, 3) := by decide +kernel
theorem d_law_11 : decode code 11 = .ok (.dup, 1) := by decide +kernel
theorem d_law_12 : decode code 12 = .ok (.invokespecial 63, 3) := by decide +kernel
theorem d_law_15 : decode code 15 = .ok (.astore_n 2, 1) := by decide +kernel
theorem d_law_16 : decode code 16 = .ok (.iconst 1, 1) := by decide +kernel
theorem d_law_17 : decode code 17 = .ok (.newarray .long, 2) := by decide +kernel
theorem d_law_19 : decode code 19 = .ok (.astore_n 3, 1) := by decide +kernel
theorem d_law_20 : decode code 20 = .ok (.iconst 1, 1) := by decide +kernel
theorem d_law_21 : decode code 21 = .ok (.newarray .double, 2) := by decide +kernel
theorem d_law_23 : decode code 23 = .ok (.astore 4, 2) := by decide +kernel
theorem d_law_25 : decode code 25 = .ok (.iconst 0, 1) := by decide +kernel
theorem d_law_26 : decode code 26 = .ok (.istore 5, 2) := by decide +kernel
abbrev law_c : Nat := 29
abbrev law_s : Nat := 38614
set_option maxHeartbeats 4000000 in
theorem law_pro {p : Program} {l : Launch} {e : Env} {s : State} {m : MethodId} {below : List Frame} {meth : Method} {c : Code} {b : Nat} {QQ : State → Prop} (hx : p.tables.exec = Jvm.exec) (hb : c.code = code) (hml : c.maxLocals = 9) (hown : s.vm.findClass "TileConsoleLaw" = some m.cls) (hts : ∀ w ∈ lw_tbl, w.before #[Value.ref b] s = true) (hn : ∀ w ∈ flatC narrow_1, w.before #[Value.ref b] s = true) (Q1 Q2 : Mem → Prop) (hk1 : wp_T_startAnew (fun _ _ => 0) Q1) (hk2 : wp_R_reset (fun _ _ => 0) Q2)
    (kk : ∀ (D : va_G) (ad ad2 : Nat → Nat) (cA cL cD : ClassId) (tb : Nat → Nat) (o od : Nat) (M N : Mem) (H : Heap) (locs : List Loc) (ls : Array Slot), Lx p m c code 9 s #[Value.ref b] D ad ad2 cA cL cD tb o od → Lw D ad ad2 cA o od s H locs M N (oL cL (fun _ => 0)) (oD cD (fun _ => 0)) → Q1 M → Q2 N → lv_has ls 9 [(5, .int 0), (4, .ref od), (3, .ref o), (2, .ref (ad2 0)), (1, .ref (ad 0)), (0, .ref b)] → W p l e room_1 s m #[Value.ref b] below meth c H locs law_c law_s QQ (F0 m 28 ls [])) :
    W p l e room_1 s m #[Value.ref b] below meth c s.heap [] 0 0 QQ (entryFrame m ([Value.ref b] : List Value).toArray 9) := by
  obtain ⟨D, cA, cL, cD, tb, hKA, hKL, hKD, hSx, hTx⟩ := start_facts hts hn
  have hwa : ∀ w ∈ WA, w.before #[Value.ref b] s = true := fun w h => hts w (List.mem_filter.mp h).1
  have S : CallFix p m c code 9 s #[Value.ref b] WA "TileConsoleLaw" := ⟨hx, hb, hml, hown, hwa⟩
  have hA : ∀ q : Nat, s.heap.size ≤ q → Al s q := fun _ h => h
  have hS : va_S (Al s) s.heap s.heap [] := va_S.rf
  have hP : va_P D vcl [] s.heap := fun k q h => by simp at h
  have hD : va_D (Al s) [] := ⟨fun i j p q h => by simp at h, fun k q h => by simp at h⟩
  have hl := lv_entry [.ref b] (n := 9) (Nat.le_of_ble_eq_true rfl)
  rw [lg_entry_eq]
  generalize (lg_sl [.ref b] ++ List.replicate (9 - (lg_sl [.ref b]).length) Slot.unset).toArray = ls at hl ⊢
  have hl : lv_has ls 9 [(0, .ref b)] := hl
  refine va_new (ci := 0) (fs := [.null, .null, .null, .null, .null]) (C := R_T) (T := F_T) (N := 5) hx hb hwa i_T ty_T ty_T_ok hown (hwa _ k_65) (hwa _ k_66) (hwa _ k_67) hKA hP hD hS hA rfl (by decide +kernel) (Nat.le_of_ble_eq_true rfl) (Nat.le_of_ble_eq_true rfl) d_law_0 (fun h0 H hP hD hS => ?_)
  refine W.widen (k := 1) (n := 5) (by omega) (by omega) ?_
  refine lv_dup hx hb d_law_3 rfl ?_
  refine cl_injL (n := 0) (w := []) (As := []) (b := h0) (rest := [.ref h0]) S hKA hSx hTx.2.2.1 (ij_T h0 Q1 hk1) k_68 ki_T_init k_67 kc_T_init rfl rfl (by decide +kernel) ⟨rfl, rfl, Nat.le_of_ble_eq_true rfl, Nat.le_of_ble_eq_true rfl⟩ rfl hl.1 rfl (Nat.le_of_ble_eq_true rfl) d_law_4 ⟨Nat.le_of_ble_eq_true rfl, Nat.le_of_ble_eq_true rfl⟩ hP hD hS hA (fun ad M H locs h0T hqT hP hD hS => ?_)
  refine W.widen (k := 18) (n := 19674) (by omega) (by omega) ?_
  have hP : va_P D vcl (ceC ad cA M) H := hP
  have hD : va_D (Al s) (ceC ad cA M) := hD
  refine lv_astore_n (i := 1) hx hb d_law_7 rfl hl (Nat.le_of_ble_eq_true rfl) rfl (fun ls hl => ?_)
  have hl : lv_has ls 9 [(1, .ref h0), (0, .ref b)] := hl
  refine va_new (ci := 6) (fs := [.int 0, .null, .null, .null, .null, .null, .null, .null, .int 0, .int 0, .int 0, .int 0, .int 0, .int 0, .int 0, .int 0, .int 0, .null, .int 0, .int 0, .int 0, .int 0, .int 0, .int 0, .int 0, .int 0, .int 0, .int 0, .int 0, .int 0, .int 0, .int 0, .int 0, .int 0, .int 0, .int 0, .int 0, .int 0, .int 0, .int 0, .int 0, .int 0, .int 0, .int 0, .int 0, .int 0, .int 0, .int 0, .int 0, .int 0, .int 0]) (C := R_R) (T := F_R) (N := 51) hx hb hwa i_R ty_R ty_R_ok hown (hwa _ k_69) (hwa _ k_70) (hwa _ k_71) hKA hP hD hS hA rfl (by decide +kernel) (Nat.le_of_ble_eq_true rfl) (Nat.le_of_ble_eq_true rfl) d_law_8 (fun h1 H hP hD hS => ?_)
  refine W.widen (k := 19) (n := 19725) (by omega) (by omega) ?_
  refine lv_dup hx hb d_law_11 rfl ?_
  refine cl_injL (n := 0) (w := ceC ad cA M) (As := []) (b := h1) (rest := [.ref h1]) S hKA hSx hTx.2.2.1 (ij_R h1 Q2 hk2) k_72 ki_R_init k_71 kc_R_init rfl rfl (by decide +kernel) ⟨rfl, rfl, Nat.le_of_ble_eq_true rfl, Nat.le_of_ble_eq_true rfl⟩ rfl hl.1 rfl (Nat.le_of_ble_eq_true rfl) d_law_12 ⟨Nat.le_of_ble_eq_true rfl, Nat.le_of_ble_eq_true rfl⟩ hP hD hS hA (fun ad2 N H locs h0R hqR hP hD hS => ?_)
  refine W.widen (k := 27) (n := 38612) (by omega) (by omega) ?_
  refine lv_astore_n (i := 2) hx hb d_law_15 rfl hl (Nat.le_of_ble_eq_true rfl) rfl (fun ls hl => ?_)
  have hl : lv_has ls 9 [(2, .ref h1), (1, .ref h0), (0, .ref b)] := hl
  refine lv_iconst hx hb d_law_16 rfl ?_
  refine nw_l (N := 1) S k_73 hKL hP hD hS hA (by decide) (by decide) (Nat.le_of_ble_eq_true rfl) (Nat.le_of_ble_eq_true rfl) (Nat.le_of_ble_eq_true rfl) d_law_17 fun o H hP hD hS => ?_
  refine W.widen (k := 28) (n := 38613) (by omega) (by omega) ?_
  refine lv_astore_n (i := 3) hx hb d_law_19 rfl hl (Nat.le_of_ble_eq_true rfl) rfl (fun ls hl => ?_)
  have hl : lv_has ls 9 [(3, .ref o), (2, .ref h1), (1, .ref h0), (0, .ref b)] := hl
  refine lv_iconst hx hb d_law_20 rfl ?_
  refine nw_d (N := 1) S k_74 hKD hP hD hS hA (by decide) (by decide) (Nat.le_of_ble_eq_true rfl) (Nat.le_of_ble_eq_true rfl) (Nat.le_of_ble_eq_true rfl) d_law_21 fun od H hP hD hS => ?_
  refine W.widen (k := law_c) (n := law_s) (by decide) (by decide) ?_
  refine lv_astore (i := 4) hx hb d_law_23 hl (Nat.le_of_ble_eq_true rfl) rfl (fun ls hl => ?_)
  have hl : lv_has ls 9 [(4, .ref od), (3, .ref o), (2, .ref h1), (1, .ref h0), (0, .ref b)] := hl
  refine lv_iconst hx hb d_law_25 rfl ?_
  refine lv_istore (i := 5) hx hb d_law_26 hl (Nat.le_of_ble_eq_true rfl) rfl (fun ls hl => ?_)
  have hl : lv_has ls 9 [(5, .int 0), (4, .ref od), (3, .ref o), (2, .ref h1), (1, .ref h0), (0, .ref b)] := hl
  have he : ((ceC ad cA M ++ ceR ad2 cA N) ++ [(o, .inl (cL, 1, .inr (.inl (fun _ => 0))))]) ++ [(od, .inl (cD, 1, .inr (.inr (.inr (.inl (fun _ => 0))))))] = Lc ad ad2 cA o od M N (oL cL (fun _ => 0)) (oD cD (fun _ => 0)) := by simp only [Lc, oL, oD, List.append_assoc]
  have hP : va_P D vcl (Lc ad ad2 cA o od M N (oL cL (fun _ => 0)) (oD cD (fun _ => 0))) H := by rw [← he]; exact hP
  have hD : va_D (Al s) (Lc ad ad2 cA o od M N (oL cL (fun _ => 0)) (oD cD (fun _ => 0))) := by rw [← he]; exact hD
  rw [← h0T, ← h0R] at hl
  exact kk D ad ad2 cA cL cD tb o od M N H locs ls ⟨S, hKA, hKL, hKD, hSx, hTx, fun M N x z => va_D_fst hD Lc_fst⟩ ⟨hP, hS⟩ hqT hqR hl
