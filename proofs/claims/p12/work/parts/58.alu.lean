/-! Reckoning, flags. -/
theorem p_r2 {d : Int32} {ρ : Nat → Int32} {M N : Mem} (h : RX d ρ M N) {k : Nat} {v v' : Int32} (e : v = v') (hv : oct v) (hf : k = 6 → (v &&& (15 : Int32)) = 0) : SI d ρ M N (mst M 17 k v) (mst N 8 k v') := by
  subst e; exact p_r h hv hf
/-- the flags of the reference, set at once -/
theorem fl_eq (N : Mem) (z n h c : Int32) : f_R_flagged_m N z n h c = mst N 8 6 ((((if z = 0 then (0 : Int32) else 128) ||| (if n = 0 then (0 : Int32) else 64)) ||| (if h = 0 then (0 : Int32) else 32)) ||| (if c = 0 then (0 : Int32) else 16)) := by
  unfold f_R_flagged_m f_R_flagged_j1_m f_R_flagged_j2_m f_R_flagged_j3_m f_R_flagged_j4_m; dsimp only
  by_cases h1 : z = 0 <;> by_cases h2 : n = 0 <;> by_cases h3 : h = 0 <;> by_cases h4 : c = 0 <;> simp only [h1, h2, h3, h4, if_true, if_false]
theorem is_eq (N : Mem) {k : Int32} (hk : 0 ≤ k.toInt) : f_R_is_v N k = if (N 8 6 &&& k) = 0 then 0 else 1 := by
  unfold f_R_is_v f_R_is_j1_v
  by_cases h : (N 8 6 &&& k) = 0
  · rw [if_pos h, if_pos ((and_le0 hk).mpr h)]
  · rw [if_neg h, if_neg (fun e => h ((and_le0 hk).mp e))]
theorem add_r {d : Int32} {ρ : Nat → Int32} {M N : Mem} (h : RX d ρ M N) {y : Int32} (hy : ¬ (2 : Int32) ≤ y) (v c : Int32) : SI d ρ M N (f_Q_add_m M v c) (f_R_reckons_j1_m N y v (N 8 7) c) := by
  have a := p_r h (k := 7) (v := ((N 8 7 + v) + c) &&& (255 : Int32)) (and_lt (by decide)) (fun e => absurd e (by decide))
  unfold f_Q_add_m f_R_reckons_j1_m f_Q_add_j1_m f_Q_add_j2_m f_Q_zero_v f_Q_zero_j1_v f_R_reckons_j11_m f_R_reckons_j12_m f_R_reckons_j13_m f_R_reckons_j2_m; dsimp only
  rw [(h.r 7).1, if_neg hy, mst_eq]
  simp only [fl_eq]
  by_cases h1 : (((N 8 7 + v) + c) &&& (255 : Int32)) = 0 <;> by_cases h2 : (((N 8 7 &&& (15 : Int32)) + (v &&& (15 : Int32))) + c) ≤ (15 : Int32) <;> by_cases h3 : ((N 8 7 + v) + c) ≤ (255 : Int32) <;> simp only [h1, h2, h3, if_true, if_false, one_ne] <;> first | exact a.tr (p_r2 a.1 (by decide) (by decide) (fun _ => by decide)) | (rw [h1] at a; exact a.tr (p_r2 a.1 (by decide) (by decide) (fun _ => by decide)))
theorem sub_f {d : Int32} {ρ : Nat → Int32} {M N : Mem} (h : RX d ρ M N) (v c : Int32) (M' : Mem) (N' : Mem) (hs : SI d ρ M N M' N') : SI d ρ M N (mst M' 17 6 ((((if (((N 8 7 - v) - c) &&& (255 : Int32)) = 0 then (128 : Int32) else 0) ||| (64 : Int32)) ||| (if 0 ≤ (((N 8 7 &&& (15 : Int32)) - (v &&& (15 : Int32))) - c) then 0 else 32)) ||| (if 0 ≤ ((N 8 7 - v) - c) then 0 else 16))) (f_R_reckons_j4_m v (N 8 7) c ((N 8 7 - v) - c) N') := by
  unfold f_R_reckons_j4_m f_R_reckons_j5_m f_R_reckons_j6_m f_R_reckons_j7_m f_R_reckons_j2_m; dsimp only
  simp only [fl_eq]
  by_cases h1 : (((N 8 7 - v) - c) &&& (255 : Int32)) = 0 <;> by_cases h2 : 0 ≤ (((N 8 7 &&& (15 : Int32)) - (v &&& (15 : Int32))) - c) <;> by_cases h3 : 0 ≤ ((N 8 7 - v) - c) <;> simp only [h1, h2, h3, if_true, if_false, one_ne] <;> exact hs.tr (p_r2 hs.1 (by decide) (by decide) (fun _ => by decide))
theorem dif_m {d : Int32} {ρ : Nat → Int32} {M N : Mem} (h : RX d ρ M N) (v c : Int32) : f_Q_difference_m M v c = mst M 17 6 ((((if (((N 8 7 - v) - c) &&& (255 : Int32)) = 0 then (128 : Int32) else 0) ||| (64 : Int32)) ||| (if 0 ≤ (((N 8 7 &&& (15 : Int32)) - (v &&& (15 : Int32))) - c) then 0 else 32)) ||| (if 0 ≤ ((N 8 7 - v) - c) then 0 else 16)) ∧ f_Q_difference_v M v c = ((N 8 7 - v) - c) &&& (255 : Int32) := by
  unfold f_Q_difference_m f_Q_difference_v f_Q_difference_j1_m f_Q_difference_j1_v f_Q_difference_j2_m f_Q_difference_j2_v f_Q_zero_v f_Q_zero_j1_v; dsimp only
  rw [(h.r 7).1]
  constructor
  · by_cases h2 : 0 ≤ (((N 8 7 &&& (15 : Int32)) - (v &&& (15 : Int32))) - c) <;> by_cases h3 : 0 ≤ ((N 8 7 - v) - c) <;> simp only [h2, h3, if_true, if_false]
  · by_cases h2 : 0 ≤ (((N 8 7 &&& (15 : Int32)) - (v &&& (15 : Int32))) - c) <;> by_cases h3 : 0 ≤ ((N 8 7 - v) - c) <;> simp only [h2, h3, if_true, if_false]
theorem sub_r {d : Int32} {ρ : Nat → Int32} {M N : Mem} (h : RX d ρ M N) {y : Int32} (hy : ¬ y = (7 : Int32)) (v c : Int32) : SI d ρ M N (mst (f_Q_difference_m M v c) 17 7 (f_Q_difference_v M v c)) (f_R_reckons_j3_m N y v (N 8 7) c) := by
  obtain ⟨e1, e2⟩ := dif_m h v c
  have a := p_r h (k := 7) (v := ((N 8 7 - v) - c) &&& (255 : Int32)) (and_lt (by decide)) (fun e => absurd e (by decide))
  unfold f_R_reckons_j3_m; dsimp only
  rw [e1, e2, if_neg hy, mst_comm (by decide)]
  exact sub_f h v c _ _ a
theorem cp_r {d : Int32} {ρ : Nat → Int32} {M N : Mem} (h : RX d ρ M N) (v c : Int32) : SI d ρ M N (f_Q_difference_m M v c) (f_R_reckons_j3_m N 7 v (N 8 7) c) := by
  obtain ⟨e1, e2⟩ := dif_m h v c
  unfold f_R_reckons_j3_m; dsimp only
  rw [e1, if_pos rfl]
  exact sub_f h v c _ _ (SI.rf h)
theorem log_r {d : Int32} {ρ : Nat → Int32} {M N : Mem} (h : RX d ρ M N) {y x hh : Int32} (hx : oct x) (hy : y = 4 ∧ hh = 32 ∨ ¬ y = 4 ∧ hh = 0) : SI d ρ M N (f_Q_setLogic_m M x hh) (f_R_reckons_j8_m N y x) := by
  have a := p_r h (k := 7) (v := x) hx (fun e => absurd e (by decide))
  unfold f_Q_setLogic_m f_R_reckons_j8_m f_R_reckons_j9_m f_R_reckons_j10_m f_R_reckons_j2_m f_Q_zero_v f_Q_zero_j1_v; dsimp only
  rw [mst_eq]
  simp only [fl_eq]
  rcases hy with ⟨e, rfl⟩ | ⟨e, rfl⟩ <;> by_cases h1 : x = 0 <;> simp only [e, h1, if_true, if_false, one_ne] <;> first | exact a.tr (p_r2 a.1 (by decide) (by decide) (fun _ => by decide)) | (rw [h1] at a; exact a.tr (p_r2 a.1 (by decide) (by decide) (fun _ => by decide)))
theorem comb_s {d : Int32} {ρ : Nat → Int32} {M N : Mem} (h : RX d ρ M N) {y v : Int32} (hy : 0 ≤ y.toInt ∧ y.toInt < 8) (hv : oct v) : SI d ρ M N (f_Q_combine_m M y v) (f_R_reckons_m N y v) := by
  have hA := (h.r 7).2
  unfold f_Q_combine_m f_R_reckons_m f_R_reckons_j14_m f_R_reckons_j15_m; dsimp only
  rw [(h.r 6).1, (h.r 7).1, is_eq N (by decide)]
  by_cases hC : (N 8 6 &&& (16 : Int32)) = 0
  · simp only [hC, if_true]
    rcases eight hy with e | e | e | e | e | e | e | e <;> subst e <;> unfold f_Q_combine_j1_m f_Q_combine_j2_m <;> simp (decide := true) only [if_true, if_false]
    · exact add_r h (by decide) v 0
    · exact add_r h (by decide) v 0
    · have t := sub_r h (y := 2) (by decide) v 0; unfold f_R_reckons_j1_m; simp (decide := true) only [if_true, if_false]; exact t
    · have t := sub_r h (y := 3) (by decide) v 0; unfold f_R_reckons_j1_m; simp (decide := true) only [if_true, if_false]; exact t
    · have t := log_r h (y := 4) (x := N 8 7 &&& v) (hh := 32) (andl_rng hA) (Or.inl ⟨rfl, rfl⟩); unfold f_R_reckons_j1_m; simp (decide := true) only [if_true, if_false]; exact t
    · have t := log_r h (y := 5) (x := N 8 7 ^^^ v) (hh := 0) (oct_xor hA hv) (Or.inr ⟨by decide, rfl⟩); unfold f_R_reckons_j1_m; simp (decide := true) only [if_true, if_false]; exact t
    · have t := log_r h (y := 6) (x := N 8 7 ||| v) (hh := 0) (oct_or hA hv) (Or.inr ⟨by decide, rfl⟩); unfold f_R_reckons_j1_m; simp (decide := true) only [if_true, if_false]; exact t
    · have t := cp_r h v 0; unfold f_R_reckons_j1_m; simp (decide := true) only [if_true, if_false]; exact t
  · simp only [hC, if_false]
    rcases eight hy with e | e | e | e | e | e | e | e <;> subst e <;> unfold f_Q_combine_j1_m f_Q_combine_j2_m <;> simp (decide := true) only [if_true, if_false]
    · exact add_r h (by decide) v 0
    · exact add_r h (by decide) v 1
    · have t := sub_r h (y := 2) (by decide) v 0; unfold f_R_reckons_j1_m; simp (decide := true) only [if_true, if_false]; exact t
    · have t := sub_r h (y := 3) (by decide) v 1; unfold f_R_reckons_j1_m; simp (decide := true) only [if_true, if_false]; exact t
    · have t := log_r h (y := 4) (x := N 8 7 &&& v) (hh := 32) (andl_rng hA) (Or.inl ⟨rfl, rfl⟩); unfold f_R_reckons_j1_m; simp (decide := true) only [if_true, if_false]; exact t
    · have t := log_r h (y := 5) (x := N 8 7 ^^^ v) (hh := 0) (oct_xor hA hv) (Or.inr ⟨by decide, rfl⟩); unfold f_R_reckons_j1_m; simp (decide := true) only [if_true, if_false]; exact t
    · have t := log_r h (y := 6) (x := N 8 7 ||| v) (hh := 0) (oct_or hA hv) (Or.inr ⟨by decide, rfl⟩); unfold f_R_reckons_j1_m; simp (decide := true) only [if_true, if_false]; exact t
    · have t := cp_r h v 0; unfold f_R_reckons_j1_m; simp (decide := true) only [if_true, if_false]; exact t
