/-! Stores agree. -/
theorem RA.c {M M' N N' : Mem} (h : RA M N) (hM : ∀ c : Nat, c = 6 ∨ c = 7 ∨ (9 ≤ c ∧ c ≤ 12) → M' c = M c) (hN : ∀ c : Nat, 1 ≤ c → c ≤ 6 → N' c = N c) : RA M' N' := by
  obtain ⟨a6, a7, a9, a11, a10, a12⟩ := h
  unfold RA
  rw [hM 6 (by decide), hM 7 (by decide), hM 9 (by decide), hM 10 (by decide), hM 11 (by decide), hM 12 (by decide), hN 1 (by decide) (by decide), hN 2 (by decide) (by decide), hN 3 (by decide) (by decide), hN 4 (by decide) (by decide), hN 5 (by decide) (by decide), hN 6 (by decide) (by decide)]
  exact ⟨a6, a7, a9, a11, a10, a12⟩
theorem RC.c {M M' N N' : Mem} (h : RC M N) (hM : M' 1 = M 1) (hN : ∀ j : Nat, 8 ≤ j → j ≤ 16 → N' 0 j = N 0 j) : RC M' N' := by
  have h8 := hN 8 (by decide) (by decide)
  have h9 := hN 9 (by decide) (by decide)
  have h10 := hN 10 (by decide) (by decide)
  have h11 := hN 11 (by decide) (by decide)
  have h12 := hN 12 (by decide) (by decide)
  have h13 := hN 13 (by decide) (by decide)
  have h14 := hN 14 (by decide) (by decide)
  have h15 := hN 15 (by decide) (by decide)
  have h16 := hN 16 (by decide) (by decide)
  have e1 : f_R_hasRam_v N' = f_R_hasRam_v N := by unfold f_R_hasRam_v; rw [h8, h9, h10]
  have e2 : f_R_bankHigh_v N' = f_R_bankHigh_v N := by unfold f_R_bankHigh_v; rw [h8, h10, h11, h14, h16]
  have e3 : f_R_bankRam_v N' = f_R_bankRam_v N := by unfold f_R_bankRam_v; rw [h10, h12, h13, h15]
  unfold RC CN; rw [e1, e2, e3, hM, h8, h9, h10, h11, h12, h13, h14, h15, h16]; exact h
def RPb (M N : Mem) : Prop := ∀ q ∈ pt, M q.1 q.2.1 = N 0 q.2.2
theorem pt25 : ∀ q ∈ pt, 25 ≤ q.2.2 ∧ (q.1 = 8 ∨ q.1 = 2) := by decide
theorem state_c {N N' : Mem} (h33 : N' 0 33 = N 0 33) (h37 : N' 0 37 = N 0 37) (h45 : N' 0 45 = N 0 45) : f_R_state_v N' = f_R_state_v N := by
  unfold f_R_state_v; rw [h33, h37, h45]
theorem RP.c {M M' N N' : Mem} (h : RP M N) (h8 : M' 8 = M 8) (h2 : M' 2 = M 2) (hN : ∀ j : Nat, 25 ≤ j → N' 0 j = N 0 j) : RP M' N' := by
  refine ⟨fun q hq => ?_, ?_⟩
  · have h9 := pt25 q hq
    rw [hN _ h9.1, ← h.1 q hq]
    rcases h9.2 with e | e
    · rw [e, h8]
    · rw [e, h2]
  · rw [h2, state_c (hN 33 (by decide)) (hN 37 (by decide)) (hN 45 (by decide))]; exact h.2
theorem pt_inj : ∀ q ∈ pt, ∀ r ∈ pt, (q.1 = r.1 ∧ q.2.1 = r.2.1) ↔ q.2.2 = r.2.2 := by decide
theorem RPb.up {M N : Mem} (h : RPb M N) {c k j : Nat} (hq : (c, k, j) ∈ pt) (v : Int32) : RPb (mst M c k v) (mst N 0 j v) := by
  intro r hr
  have h9 := pt_inj (c, k, j) hq r hr
  dsimp only at h9
  by_cases e : j = r.2.2
  · obtain ⟨e1, e2⟩ := h9.mpr e
    rw [← e1, ← e2, ← e, mst_eq, mst_eq]
  · have hn : ¬ (c = r.1 ∧ k = r.2.1) := fun x => e (h9.mp x)
    rw [mst_ne (Ne.symm e)]
    by_cases e1 : r.1 = c
    · rw [mst_ne (fun x => hn ⟨e1.symm, x.symm⟩)]; exact h r hr
    · rw [mst_no e1]; exact h r hr
theorem RP.b {M N : Mem} (h : RP M N) : RPb M N := h.1
theorem RP.up {M N : Mem} (h : RP M N) {c k j : Nat} (hq : (c, k, j) ∈ pt) (hs : (¬ c = 2 ∨ ¬ k = 6) ∧ ¬ j = 33 ∧ ¬ j = 37 ∧ ¬ j = 45) (v : Int32) : RP (mst M c k v) (mst N 0 j v) := by
  refine ⟨RPb.up h.1 hq v, ?_⟩
  rw [state_c (mst_ne (Ne.symm hs.2.1)) (mst_ne (Ne.symm hs.2.2.1)) (mst_ne (Ne.symm hs.2.2.2)), ← h.2]
  rcases hs.1 with e | e
  · rw [mst_no (Ne.symm e)]
  · rw [mst_ne (Ne.symm e)]
theorem RP.junk {M N : Mem} (h : RP M N) {k : Nat} (hk : ∀ j, (8, k, j) ∉ pt) (v : Int32) : RP (mst M 8 k v) N := by
  refine ⟨fun r hr => ?_, ?_⟩
  · by_cases e1 : r.1 = 8
    · rw [mst_ne (fun x => hk r.2.2 (by rw [← x, ← e1]; exact hr))]; exact h.1 r hr
    · rw [mst_no e1]; exact h.1 r hr
  · rw [mst_no (by decide)]; exact h.2
/-- the reference's dot and row, where the screen is off -/
def stR (N : Mem) : Mem := if ((N 0 33) &&& (128 : Int32)) = 0 then mst (mst N 0 45 (0 : Int32)) 0 37 (0 : Int32) else N
theorem RPb.find {M N : Mem} (h : RPb M N) : RP (f_P_findState_m M) (stR N) := by
  have h64 : M 8 64 = N 0 33 := h (8, 64, 33) (by decide)
  have h4 : M 2 4 = N 0 45 := h (2, 4, 45) (by decide)
  have h5 : M 2 5 = N 0 37 := h (2, 5, 37) (by decide)
  have up6 : ∀ (M' N' : Mem) (x : Int32), RPb M' N' → RPb (mst M' 2 6 x) N' := by
    intro M' N' x h' r hr
    have hn : ¬ (r.1 = 2 ∧ r.2.1 = 6) := by
      intro hh
      have h9 : ∀ q ∈ pt, ¬ (q.1 = 2 ∧ q.2.1 = 6) := by decide
      exact h9 r hr hh
    by_cases e1 : r.1 = 2
    · rw [mst_ne (fun x => hn ⟨e1, x⟩)]; exact h' r hr
    · rw [mst_no e1]; exact h' r hr
  unfold f_P_findState_m stR f_P_findState_j2_m f_P_findState_j1_m; dsimp only
  rw [h64, h4, h5]
  by_cases c : ((N 0 33) &&& (128 : Int32)) = 0
  · rw [if_pos c, if_pos c]
    refine ⟨up6 _ _ _ (RPb.up (RPb.up h (by decide) 0) (by decide) 0), ?_⟩
    rw [mst_eq]; unfold f_R_state_v
    rw [mst_ne (by decide), mst_ne (by decide), if_pos c]
  · rw [if_neg c, if_neg c]
    have es : f_R_state_v N = (if (N 0 37) < (144 : Int32) then (if (20 : Int32) ≤ (N 0 45) then (if (63 : Int32) ≤ (N 0 45) then 0 else 3) else 2) else 1) := by
      unfold f_R_state_v f_R_state_j1_v; rw [if_neg c]
    by_cases c1 : (N 0 37) < (144 : Int32)
    · rw [if_pos c1] at es ⊢
      by_cases c2 : (20 : Int32) ≤ (N 0 45)
      · rw [if_pos c2] at es ⊢
        by_cases c3 : (63 : Int32) ≤ (N 0 45)
        · rw [if_pos c3] at es ⊢; exact ⟨up6 _ _ _ h, by rw [mst_eq, es]⟩
        · rw [if_neg c3] at es ⊢; exact ⟨up6 _ _ _ h, by rw [mst_eq, es]⟩
      · rw [if_neg c2] at es ⊢; exact ⟨up6 _ _ _ h, by rw [mst_eq, es]⟩
    · rw [if_neg c1] at es ⊢; exact ⟨up6 _ _ _ h, by rw [mst_eq, es]⟩
theorem find_c (M : Mem) {c : Nat} (hc : ¬ c = 2) : f_P_findState_m M c = M c := by
  unfold f_P_findState_m f_P_findState_j2_m f_P_findState_j1_m; dsimp only
  repeat' split
  all_goals simp only [mst_no hc]
theorem st_port {M N : Mem} (h : RP M N) {a : Int32} (v : Int32) (ha : 65280 ≤ a.toInt ∧ a.toInt < 65536) (hd : ¬ a = (65350 : Int32)) : RP (f_P_store_m M (a &&& (255 : Int32)) v) (f_R_setPort_m N a v) := by
  by_cases e0 : a = (65280 : Int32)
  · subst e0; unfold f_P_store_m f_R_setPort_m f_P_store_j1_m f_R_setPort_j1_m f_P_clearDivider_m; simp (decide := true) only [if_false, if_true]
    exact h.up (c := 8) (k := 0) (j := 26) (by decide) (by decide) _
  by_cases e4 : a = (65284 : Int32)
  · subst e4; unfold f_P_store_m f_R_setPort_m f_P_store_j1_m f_R_setPort_j1_m f_P_clearDivider_m; simp (decide := true) only [if_false, if_true]
    exact h.up (c := 2) (k := 3) (j := 27) (by decide) (by decide) _
  by_cases e5 : a = (65285 : Int32)
  · subst e5; unfold f_P_store_m f_R_setPort_m f_P_store_j1_m f_R_setPort_j1_m f_P_clearDivider_m; simp (decide := true) only [if_false, if_true]
    exact h.up (c := 8) (k := 5) (j := 28) (by decide) (by decide) _
  by_cases e6 : a = (65286 : Int32)
  · subst e6; unfold f_P_store_m f_R_setPort_m f_P_store_j1_m f_R_setPort_j1_m f_P_clearDivider_m; simp (decide := true) only [if_false, if_true]
    exact h.up (c := 8) (k := 6) (j := 29) (by decide) (by decide) _
  by_cases e7 : a = (65287 : Int32)
  · subst e7; unfold f_P_store_m f_R_setPort_m f_P_store_j1_m f_R_setPort_j1_m f_P_clearDivider_m; simp (decide := true) only [if_false, if_true]
    exact h.up (c := 8) (k := 7) (j := 30) (by decide) (by decide) _
  by_cases e15 : a = (65295 : Int32)
  · subst e15; unfold f_P_store_m f_R_setPort_m f_P_store_j1_m f_R_setPort_j1_m f_P_clearDivider_m; simp (decide := true) only [if_false, if_true]
    exact h.up (c := 8) (k := 15) (j := 31) (by decide) (by decide) _
  by_cases e64 : a = (65344 : Int32)
  · subst e64; unfold f_P_store_m f_R_setPort_m f_P_store_j1_m f_R_setPort_j1_m f_P_clearDivider_m; simp (decide := true) only [if_false, if_true]
    have h9 := (RPb.up h.b (c := 8) (k := 64) (j := 33) (by decide) v).find
    unfold stR at h9; rw [mst_eq] at h9; exact h9
  by_cases e65 : a = (65345 : Int32)
  · subst e65; unfold f_P_store_m f_R_setPort_m f_P_store_j1_m f_R_setPort_j1_m f_P_clearDivider_m; simp (decide := true) only [if_false, if_true]
    exact h.up (c := 8) (k := 65) (j := 34) (by decide) (by decide) _
  by_cases e66 : a = (65346 : Int32)
  · subst e66; unfold f_P_store_m f_R_setPort_m f_P_store_j1_m f_R_setPort_j1_m f_P_clearDivider_m; simp (decide := true) only [if_false, if_true]
    exact h.up (c := 8) (k := 66) (j := 35) (by decide) (by decide) _
  by_cases e67 : a = (65347 : Int32)
  · subst e67; unfold f_P_store_m f_R_setPort_m f_P_store_j1_m f_R_setPort_j1_m f_P_clearDivider_m; simp (decide := true) only [if_false, if_true]
    exact h.up (c := 8) (k := 67) (j := 36) (by decide) (by decide) _
  by_cases e69 : a = (65349 : Int32)
  · subst e69; unfold f_P_store_m f_R_setPort_m f_P_store_j1_m f_R_setPort_j1_m f_P_clearDivider_m; simp (decide := true) only [if_false, if_true]
    exact h.up (c := 8) (k := 69) (j := 38) (by decide) (by decide) _
  by_cases e71 : a = (65351 : Int32)
  · subst e71; unfold f_P_store_m f_R_setPort_m f_P_store_j1_m f_R_setPort_j1_m f_P_clearDivider_m; simp (decide := true) only [if_false, if_true]
    exact h.up (c := 8) (k := 71) (j := 40) (by decide) (by decide) _
  by_cases e72 : a = (65352 : Int32)
  · subst e72; unfold f_P_store_m f_R_setPort_m f_P_store_j1_m f_R_setPort_j1_m f_P_clearDivider_m; simp (decide := true) only [if_false, if_true]
    exact h.up (c := 8) (k := 72) (j := 41) (by decide) (by decide) _
  by_cases e73 : a = (65353 : Int32)
  · subst e73; unfold f_P_store_m f_R_setPort_m f_P_store_j1_m f_R_setPort_j1_m f_P_clearDivider_m; simp (decide := true) only [if_false, if_true]
    exact h.up (c := 8) (k := 73) (j := 42) (by decide) (by decide) _
  by_cases e74 : a = (65354 : Int32)
  · subst e74; unfold f_P_store_m f_R_setPort_m f_P_store_j1_m f_R_setPort_j1_m f_P_clearDivider_m; simp (decide := true) only [if_false, if_true]
    exact h.up (c := 8) (k := 74) (j := 43) (by decide) (by decide) _
  by_cases e75 : a = (65355 : Int32)
  · subst e75; unfold f_P_store_m f_R_setPort_m f_P_store_j1_m f_R_setPort_j1_m f_P_clearDivider_m; simp (decide := true) only [if_false, if_true]
    exact h.up (c := 8) (k := 75) (j := 44) (by decide) (by decide) _
  by_cases e255 : a = (65535 : Int32)
  · subst e255; unfold f_P_store_m f_R_setPort_m f_P_store_j1_m f_R_setPort_j1_m f_P_clearDivider_m; simp (decide := true) only [if_false, if_true]
    exact h.up (c := 8) (k := 255) (j := 32) (by decide) (by decide) _
  have n0 := pn ha (c := 65280) (k := 0) (by decide) e0
  have n4 := pn ha (c := 65284) (k := 4) (by decide) e4
  have n5 := pn ha (c := 65285) (k := 5) (by decide) e5
  have n6 := pn ha (c := 65286) (k := 6) (by decide) e6
  have n7 := pn ha (c := 65287) (k := 7) (by decide) e7
  have n15 := pn ha (c := 65295) (k := 15) (by decide) e15
  have n64 := pn ha (c := 65344) (k := 64) (by decide) e64
  have n65 := pn ha (c := 65345) (k := 65) (by decide) e65
  have n66 := pn ha (c := 65346) (k := 66) (by decide) e66
  have n67 := pn ha (c := 65347) (k := 67) (by decide) e67
  have n69 := pn ha (c := 65349) (k := 69) (by decide) e69
  have n71 := pn ha (c := 65351) (k := 71) (by decide) e71
  have n72 := pn ha (c := 65352) (k := 72) (by decide) e72
  have n73 := pn ha (c := 65353) (k := 73) (by decide) e73
  have n74 := pn ha (c := 65354) (k := 74) (by decide) e74
  have n75 := pn ha (c := 65355) (k := 75) (by decide) e75
  have n255 := pn ha (c := 65535) (k := 255) (by decide) e255
  have n70 := pn ha (c := 65350) (k := 70) (by decide) hd
  unfold f_P_store_m f_R_setPort_m f_P_store_j1_m f_R_setPort_j1_m
  simp only [n0, n4, n5, n6, n7, n15, n64, n65, n66, n67, n69, n71, n72, n73, n74, n75, n255, e0, e4, e5, e6, e7, e15, e64, e65, e66, e67, e69, e71, e72, e73, e74, e75, e255, hd, if_false]
  refine h.junk (fun j hj => ?_) _
  have hp := port_ti ha
  have hpp : ((a &&& (255 : Int32)) &&& (255 : Int32)).toInt = a.toInt - 65280 := by
    have e : ((a &&& (255 : Int32)) &&& (255 : Int32)) = (a &&& (255 : Int32)) := by rw [Int32.and_assoc]; rfl
    rw [e, hp]
  have hcl := ti_clamp (x := (a &&& (255 : Int32)) &&& (255 : Int32)) (by omega)
  generalize ((a &&& (255 : Int32)) &&& (255 : Int32)).toNatClampNeg = k at hj hcl
  have h9 : ∀ q ∈ pt, q.1 = 8 → q.2.1 = 0 ∨ q.2.1 = 5 ∨ q.2.1 = 6 ∨ q.2.1 = 7 ∨ q.2.1 = 15 ∨ q.2.1 = 64 ∨ q.2.1 = 65 ∨ q.2.1 = 66 ∨ q.2.1 = 67 ∨ q.2.1 = 69 ∨ q.2.1 = 70 ∨ q.2.1 = 71 ∨ q.2.1 = 72 ∨ q.2.1 = 73 ∨ q.2.1 = 74 ∨ q.2.1 = 75 ∨ q.2.1 = 255 := by decide
  have h8 := h9 _ hj rfl
  dsimp only at h8
  simp only [ti_eq, Int32.reduceToInt] at e0 e5 e6 e7 e15 e64 e65 e66 e67 e69 e71 e72 e73 e74 e75 e255 hd
  omega
theorem stp_c (M : Mem) (p v : Int32) {c : Nat} (hc : ¬ c = 2 ∧ ¬ c = 8) : f_P_store_m M p v c = M c := by
  unfold f_P_store_m f_P_store_j1_m f_P_clearDivider_m; dsimp only
  repeat' split
  all_goals first | rw [mst_no hc.1] | rw [mst_no hc.2] | rw [find_c _ hc.1, mst_no hc.2]
theorem stp_n (N : Mem) (a v : Int32) (hd : ¬ a = (65350 : Int32)) {c j : Nat} (hc : ¬ c = 0 ∨ j < 25) : f_R_setPort_m N a v c j = N c j := by
  have key : ∀ (N' : Mem) (k : Nat) (x : Int32), 25 ≤ k → mst N' 0 k x c j = N' c j := by
    intro N' k x hk
    rcases hc with hc | hc
    · rw [mst_no hc]
    · rw [mst_ne (by omega)]
  unfold f_R_setPort_m f_R_setPort_j1_m; dsimp only
  simp only [if_neg hd]

  by_cases e0 : a = (65280 : Int32)
  · subst e0; simp (decide := true) only [if_false, if_true]; exact key _ _ _ (by decide)
  by_cases e4 : a = (65284 : Int32)
  · subst e4; simp (decide := true) only [if_false, if_true]; exact key _ _ _ (by decide)
  by_cases e5 : a = (65285 : Int32)
  · subst e5; simp (decide := true) only [if_false, if_true]; exact key _ _ _ (by decide)
  by_cases e6 : a = (65286 : Int32)
  · subst e6; simp (decide := true) only [if_false, if_true]; exact key _ _ _ (by decide)
  by_cases e7 : a = (65287 : Int32)
  · subst e7; simp (decide := true) only [if_false, if_true]; exact key _ _ _ (by decide)
  by_cases e15 : a = (65295 : Int32)
  · subst e15; simp (decide := true) only [if_false, if_true]; exact key _ _ _ (by decide)
  by_cases e64 : a = (65344 : Int32)
  · subst e64; simp (decide := true) only [if_false, if_true]
    split
    · rw [key _ _ _ (by decide), key _ _ _ (by decide), key _ _ _ (by decide)]
    · rw [key _ _ _ (by decide)]
  by_cases e65 : a = (65345 : Int32)
  · subst e65; simp (decide := true) only [if_false, if_true]; exact key _ _ _ (by decide)
  by_cases e66 : a = (65346 : Int32)
  · subst e66; simp (decide := true) only [if_false, if_true]; exact key _ _ _ (by decide)
  by_cases e67 : a = (65347 : Int32)
  · subst e67; simp (decide := true) only [if_false, if_true]; exact key _ _ _ (by decide)
  by_cases e69 : a = (65349 : Int32)
  · subst e69; simp (decide := true) only [if_false, if_true]; exact key _ _ _ (by decide)
  by_cases e71 : a = (65351 : Int32)
  · subst e71; simp (decide := true) only [if_false, if_true]; exact key _ _ _ (by decide)
  by_cases e72 : a = (65352 : Int32)
  · subst e72; simp (decide := true) only [if_false, if_true]; exact key _ _ _ (by decide)
  by_cases e73 : a = (65353 : Int32)
  · subst e73; simp (decide := true) only [if_false, if_true]; exact key _ _ _ (by decide)
  by_cases e74 : a = (65354 : Int32)
  · subst e74; simp (decide := true) only [if_false, if_true]; exact key _ _ _ (by decide)
  by_cases e75 : a = (65355 : Int32)
  · subst e75; simp (decide := true) only [if_false, if_true]; exact key _ _ _ (by decide)
  by_cases e255 : a = (65535 : Int32)
  · subst e255; simp (decide := true) only [if_false, if_true]; exact key _ _ _ (by decide)
  simp only [e0, e4, e5, e6, e7, e15, e64, e65, e66, e67, e69, e71, e72, e73, e74, e75, e255, if_false]
theorem dma_ad {v x : Int32} (hv : oct v) (hx : 0 ≤ x.toInt ∧ x.toInt < 160) : w16 ((v * (256 : Int32)) + x) ∧ ((((256 : Int32) * v) + x) &&& (65535 : Int32)) = (v * (256 : Int32)) + x := by
  have h3 : (256 : Int32).toInt = 256 := by decide
  have h4 : (v * (256 : Int32)).toInt = v.toInt * 256 := by rw [ti_mul (by rw [h3]; omega) (by rw [h3]; omega), h3]
  have h5 : ((v * (256 : Int32)) + x).toInt = v.toInt * 256 + x.toInt := by rw [ti_add (by omega) (by omega), h4]
  refine ⟨⟨by omega, by omega⟩, ?_⟩
  rw [Int32.mul_comm]
  obtain ⟨k, hk, e⟩ := of_nI (x := (v * (256 : Int32)) + x) (n := 65536) ⟨by omega, by omega⟩ (by decide)
  rw [e]
  apply Int32.toBitVec_inj.mp
  apply BitVec.eq_of_toNat_eq
  rw [Int32.toBitVec_and, BitVec.toNat_and]
  show (BitVec.ofNat 32 k).toNat &&& (BitVec.ofNat 32 65535).toNat = (BitVec.ofNat 32 k).toNat
  rw [BitVec.toNat_ofNat, BitVec.toNat_ofNat, Nat.mod_eq_of_lt (by omega), Nat.mod_eq_of_lt (by decide), show (65535 : Nat) = 2 ^ 16 - 1 from rfl, Nat.and_two_pow_sub_one_eq_mod]
  omega
/-- one octet of an array on both sides -/
theorem RM.arr {M N : Mem} (h : RM M N) {c c' k : Nat} (hc : (c, c') ∈ [(6, 1), (7, 2), (9, 3), (11, 4), (10, 5), (12, 6)]) (v : Int32) : RM (mst M c k v) (mst N c' k v) := by
  obtain ⟨ha, hc0, hp⟩ := h
  have h9 : ∀ q ∈ [((6 : Nat), (1 : Nat)), (7, 2), (9, 3), (11, 4), (10, 5), (12, 6)], ¬ q.1 = 1 ∧ ¬ q.1 = 2 ∧ ¬ q.1 = 8 ∧ ¬ q.2 = 0 := by decide
  have h8 := h9 _ hc
  dsimp only at h8
  refine ⟨?_, hc0.c (mst_no (Ne.symm h8.1)) (fun j _ _ => by rw [mst_no (Ne.symm h8.2.2.2)]), hp.c (mst_no (Ne.symm h8.2.2.1)) (mst_no (Ne.symm h8.2.1)) (fun j _ => by rw [mst_no (Ne.symm h8.2.2.2)])⟩
  obtain ⟨a6, a7, a9, a11, a10, a12⟩ := ha
  simp only [List.mem_cons, Prod.mk.injEq, List.not_mem_nil, or_false] at hc
  rcases hc with ⟨rfl, rfl⟩ | ⟨rfl, rfl⟩ | ⟨rfl, rfl⟩ | ⟨rfl, rfl⟩ | ⟨rfl, rfl⟩ | ⟨rfl, rfl⟩ <;> simp [RA, mst, a6, a7, a9, a11, a10, a12]
theorem dma {d : Int32} {ρ : Nat → Int32} {v : Int32} (hv : oct v) (hd : oct d) : ∀ (n : Nat) (x : Int32) (M N : Mem), 0 ≤ x.toInt → x.toInt ≤ 160 → 160 < x.toInt + n → RM M N → SR d ρ N → RM (f_Y_store_l1_m v n x M) (f_R_setPort_l1_m v n x N) := by
  intro n
  induction n with
  | zero => intro x M N h1 h2 h3; exact absurd h3 (by omega)
  | succ n ih =>
    intro x M N h1 h2 h3 h sN
    rw [f_Y_store_l1_m_s, f_R_setPort_l1_m_s]; dsimp only
    by_cases hc : (160 : Int32) ≤ x
    · rw [if_pos hc, if_pos hc]; exact h
    · rw [if_neg hc, if_neg hc]
      have hx : x.toInt < 160 := by rw [ti_le] at hc; have : (160 : Int32).toInt = 160 := by decide
                                    omega
      have h7 := a1_ti (a := x) (by omega)
      obtain ⟨e1, e2⟩ := dma_ad hv ⟨h1, hx⟩
      rw [e2, ld h (by rw [sN.2.2.2.1]; exact hd) e1]
      exact ih _ _ _ (by omega) (by omega) (by omega) (h.arr (by decide) _) (SR.sa sN (by decide) (so_R_get N _ sN e1).2)
theorem st_no1 {d : Int32} {ρ : Nat → Int32} {M N : Mem} (h : RM M N) (sN : SR d ρ N) (hd : oct d) {a v : Int32} (ha : w16 a) (hv : oct v) : RM (f_Y_store_m M a v) (f_R_put_m N a v) := by
  have c8000 : (32768 : Int32).toInt = 32768 := by decide
  have cA000 : (40960 : Int32).toInt = 40960 := by decide
  have cFF00 : (65280 : Int32).toInt = 65280 := by decide
  have cFF80 : (65408 : Int32).toInt = 65408 := by decide
  have cFFFF : (65535 : Int32).toInt = 65535 := by decide
  have port : RM (f_Y_store_j2_m M a v) (f_R_put_j2_m N a v) := by
    unfold f_Y_store_j2_m f_R_put_j2_m f_Y_store_j1_m f_R_put_j1_m; dsimp only
    by_cases hG : a < (65280 : Int32)
    · rw [if_pos hG, if_pos hG]; exact h
    · rw [if_neg hG, if_neg hG]
      have hr : 65280 ≤ a.toInt ∧ a.toInt < 65536 := ⟨by rw [ti_lt] at hG; omega, ha.2⟩
      obtain ⟨hA, hC, hP⟩ := h
      by_cases hD : a = (65350 : Int32)
      · rw [if_pos hD]; subst hD
        have e1 : f_P_store_m M ((65350 : Int32) &&& (255 : Int32)) v = mst M 8 70 v := by
          unfold f_P_store_m f_P_store_j1_m; simp (decide := true) only [if_false]; rfl
        have e2 : f_R_setPort_m N (65350 : Int32) v = f_R_setPort_l1_m v 161 (0 : Int32) (mst N 0 39 v) := by
          unfold f_R_setPort_m; simp (decide := true) only [if_false, if_true]
        rw [e1, e2]
        refine dma hv hd 161 0 _ _ (by decide) (by decide) (by decide) ⟨hA.c (fun c hc => mst_no (by omega)) (fun c h1 _ => mst_no (by omega)), hC.c (mst_no (by decide)) (fun j _ h2 => mst_ne (by omega)), hP.up (c := 8) (k := 70) (j := 39) (by decide) (by decide) _⟩ (SR.sf sN (by decide) hv)
      · rw [if_neg hD]
        exact ⟨hA.c (fun c hc => stp_c _ _ _ (by omega)) (fun c h1 _ => funext fun j => stp_n _ _ _ hD (Or.inl (by omega))), hC.c (stp_c _ _ _ (by decide)) (fun j _ h2 => stp_n _ _ _ hD (Or.inr (by omega))), st_port hP v hr hD⟩
  unfold f_Y_store_m f_R_put_m f_Y_store_j1_m f_R_put_j1_m; dsimp only
  by_cases h8 : (32768 : Int32) ≤ a
  · rw [if_pos h8, if_pos h8]
    by_cases hA : (40960 : Int32) ≤ a
    · rw [if_pos hA, if_pos hA]
      by_cases hC : (49152 : Int32) ≤ a
      · rw [if_pos hC, if_pos hC]
        by_cases hE : (65024 : Int32) ≤ a
        · rw [if_pos hE, if_pos hE]
          by_cases hF : (65184 : Int32) ≤ a
          · rw [if_pos hF, if_pos hF]
            by_cases hH : a < (65408 : Int32)
            · rw [if_pos hH, if_pos hH]; exact port
            · rw [if_neg hH, if_neg hH]
              by_cases hI : (65535 : Int32) ≤ a
              · rw [if_pos hI, if_pos hI]; exact port
              · rw [if_neg hI, if_neg hI, top_ti ⟨by rw [ti_lt] at hH; omega, by rw [ti_le] at hI; omega⟩]
                exact h.arr (by decide) _
          · rw [if_neg hF, if_neg hF]; exact h.arr (by decide) _
        · rw [if_neg hE, if_neg hE]; exact h.arr (by decide) _
      · rw [if_neg hC, if_neg hC]
        have h0 := h
        obtain ⟨hA0, ⟨c2, c3, c4, c5, c6, c7, -⟩, hP⟩ := h
        unfold f_K_storeRam_m f_K_storeRam_j2_m f_K_storeRam_j1_m f_R_put_j3_m f_R_put_j1_m; dsimp only
        rw [c4, c6, c3]
        by_cases hr : f_R_hasRam_v N = 0
        · rw [if_pos hr, if_pos hr]; exact h0
        · rw [if_neg hr, if_neg hr, Int32.mul_comm]
          by_cases hk : N 0 10 = (2 : Int32)
          · rw [if_pos hk, if_pos hk]; exact h0.arr (by decide) _
          · rw [if_neg hk, if_neg hk]; exact h0.arr (by decide) _
    · rw [if_neg hA, if_neg hA, video_ti ⟨by rw [ti_le] at h8; omega, by rw [ti_le] at hA; omega⟩]; exact h.arr (by decide) _
  · rw [if_neg h8, if_neg h8]
    obtain ⟨hA, hC, hP⟩ := h
    exact ⟨hA.c (fun c hc => ctl_c _ _ _ (by omega)) (fun c h1 _ => funext fun j => ctl_n _ _ _ (Or.inl (by omega))), ctl hC sN hv, hP.c (ctl_c _ _ _ (by decide)) (ctl_c _ _ _ (by decide)) (fun j h1 => ctl_n _ _ _ (Or.inr (by omega)))⟩
