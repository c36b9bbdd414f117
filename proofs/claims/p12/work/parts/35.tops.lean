theorem wT_register {M : Mem} {a : Int32} {Q : Int32 → Prop} (h1 : ¬ a < 0) (h2 : a ≤ (9 : Int32)) (hok : ok_Q_valueOf M a) (hQ : Q (f_Q_valueOf_v M a)) : wp_T_register M a Q := by
  refine sp_T_register M a Q ⟨fun h => absurd h h1, fun _ => ⟨fun _ => hok, fun h => absurd h2 h⟩⟩ ?_
  unfold f_T_register_v; rw [if_neg h1, if_pos h2]; exact hQ
theorem wX_register {M : Mem} {a : Int32} {Q : Nat → Mem → Prop} (h : a < 0 ∨ ¬ a ≤ (9 : Int32)) (hQ : Q 0 M) : wp_TX_register M a Q := by
  refine sp_TX_register M a Q ?_ ?_
  · exact ⟨fun _ => trivial, fun h1 => ⟨fun h2 => by rcases h with h | h; exact absurd h h1; exact absurd h2 h, fun _ => trivial⟩⟩
  · unfold f_TX_register_v f_TX_register_m f_TX_register_j1_v f_TX_register_j1_m
    by_cases h1 : a < 0
    · rw [if_pos h1, if_pos h1]; exact hQ
    · rcases h with h | h
      · exact absurd h h1
      · rw [if_neg h1, if_neg h, if_neg h1, if_neg h]; exact hQ
theorem wR_register {N : Mem} {a : Int32} {Q : Int32 → Mem → Prop} (h1 : ¬ a < 0) (h2 : ¬ (9 : Int32) < a) (hok : ok_R_registerAt (E0 N) a) (hQ : Q (f_R_registerAt_v (E0 N) a) (E0 N)) : wp_R_register N a Q := by
  refine sp_R_register N a Q ?_ ?_
  · simp only [ok_R_register, ok_R_register_j1, forall_eq, ok_in, ok_fl, in1 h1 h2, flv0 (E0_0 N), flm0, one_ne, not_false_eq_true, not_true_eq_false, true_and, forall_const, false_implies, and_true, hok]
  · simp only [f_R_register_v, f_R_register_m, f_R_register_j1_v, f_R_register_j1_m, f_R_register_j2_v, f_R_register_j2_m, in1 h1 h2, flv0 (E0_0 N), flm0, one_ne, if_false, if_true]; exact hQ
theorem wRx_register {N : Mem} {a : Int32} {Q : Int32 → Mem → Prop} (h : a < 0 ∨ (9 : Int32) < a) (hQ : Q 0 (mst (E0 N) 0 0 1)) : wp_R_register N a Q := by
  refine sp_R_register N a Q ?_ ?_
  · simp only [ok_R_register, ok_R_register_j1, forall_eq, ok_in, ok_fl, in0 h, flv1 (E0_0 N) (c := 1) (by decide), one_ne, not_false_eq_true, not_true_eq_false, true_and, forall_const, false_implies, and_true]
  · simp only [f_R_register_v, f_R_register_m, f_R_register_j1_v, f_R_register_j1_m, f_R_register_j2_v, f_R_register_j2_m, in0 h, flv1 (E0_0 N) (c := 1) (by decide), flm1 (E0_0 N), one_ne, if_false, if_true]; exact hQ
def setR (N : Mem) (a v : Int32) : Mem := if a = 0 then mst N 8 7 (v &&& (255 : Int32)) else if a = (1 : Int32) then mst N 8 6 (v &&& (240 : Int32)) else if (8 : Int32) ≤ a then (if a = (8 : Int32) then mst N 0 18 (v &&& (65535 : Int32)) else mst N 0 19 (v &&& (65535 : Int32))) else mst N 8 ((a - (2 : Int32))).toNatClampNeg (v &&& (255 : Int32))
theorem wT_set {M : Mem} {a v : Int32} {Q : Int32 → Mem → Prop} (h1 : ¬ a < 0) (h2 : a ≤ (9 : Int32)) (hok : ok_Q_valueOf M a ∧ ok_Q_put M a v) (hQ : Q (f_Q_valueOf_v M a) (f_Q_put_m M a v)) : wp_T_set M a v Q := by
  refine sp_T_set M a v Q ⟨fun h => absurd h h1, fun _ => ⟨fun _ => ⟨hok.1, fun _ _ => hok.2⟩, fun h => absurd h2 h⟩⟩ ?_
  unfold f_T_set_v f_T_set_m; rw [if_neg h1, if_pos h2, if_neg h1, if_pos h2]; exact hQ
theorem wX_set {M : Mem} {a v : Int32} {Q : Nat → Mem → Prop} (h : a < 0 ∨ ¬ a ≤ (9 : Int32)) (hQ : Q 0 M) : wp_TX_set M a v Q := by
  refine sp_TX_set M a v Q ?_ ?_
  · exact ⟨fun _ => trivial, fun h1 => ⟨fun h2 => by rcases h with h | h; exact absurd h h1; exact absurd h2 h, fun _ => trivial⟩⟩
  · unfold f_TX_set_v f_TX_set_m f_TX_set_j1_v f_TX_set_j1_m
    by_cases h1 : a < 0
    · rw [if_pos h1, if_pos h1]; exact hQ
    · rcases h with h | h
      · exact absurd h h1
      · rw [if_neg h1, if_neg h, if_neg h1, if_neg h]; exact hQ
theorem wR_set {N : Mem} {a v : Int32} {Q : Int32 → Mem → Prop} (h1 : ¬ a < 0) (h2 : ¬ (9 : Int32) < a) (hok : ok_R_registerAt (E0 N) a) (hQ : Q (f_R_registerAt_v (E0 N) a) (setR (E0 N) a v)) : wp_R_set N a v Q := by
  refine sp_R_set N a v Q ?_ ?_
  · simp only [ok_R_set, ok_R_set_j1, forall_eq, ok_in, ok_fl, in1 h1 h2, flv0 (E0_0 N), flm0, one_ne, not_false_eq_true, not_true_eq_false, true_and, forall_const, false_implies, and_true, hok]
    refine ⟨fun ha0 => ⟨fun ha1 => ⟨fun _ => trivial, fun h8 => ?_⟩, fun _ => trivial⟩, fun _ => trivial⟩
    rw [ti_eq] at ha0 ha1; rw [ti_le] at h8; rw [ti_lt] at h1
    have c0 : (0 : Int32).toInt = 0 := by decide
    have c1 : (1 : Int32).toInt = 1 := by decide
    have c2 : (2 : Int32).toInt = 2 := by decide
    have c8 : (8 : Int32).toInt = 8 := by decide
    rw [vp_iff, ti_sub (by omega) (by omega)]; omega
  · have e : f_R_set_v N a v = f_R_registerAt_v (E0 N) a := by
      simp only [f_R_set_v, f_R_set_j1_v, f_R_set_j2_v, in1 h1 h2, flv0 (E0_0 N), flm0, one_ne, if_false, if_true]; repeat' split
      all_goals rfl
    have e2 : f_R_set_m N a v = setR (E0 N) a v := by
      simp only [f_R_set_m, f_R_set_j1_m, f_R_set_j2_m, in1 h1 h2, flv0 (E0_0 N), flm0, one_ne, if_false, if_true, setR]
    rw [e, e2]; exact hQ
theorem wRx_set {N : Mem} {a v : Int32} {Q : Int32 → Mem → Prop} (h : a < 0 ∨ (9 : Int32) < a) (hQ : Q 0 (mst (E0 N) 0 0 1)) : wp_R_set N a v Q := by
  refine sp_R_set N a v Q ?_ ?_
  · simp only [ok_R_set, ok_R_set_j1, forall_eq, ok_in, ok_fl, in0 h, flv1 (E0_0 N) (c := 1) (by decide), one_ne, not_false_eq_true, not_true_eq_false, true_and, forall_const, false_implies, and_true]
  · simp only [f_R_set_v, f_R_set_m, f_R_set_j1_v, f_R_set_j1_m, in0 h, flv1 (E0_0 N) (c := 1) (by decide), flm1 (E0_0 N), one_ne, if_false, if_true]; exact hQ
theorem wT_row {M : Mem} {a : Int32} {Q : Int32 → Mem → Prop} (h1 : ¬ a < 0) (h2 : a < (144 : Int32)) (hok : ok_S_make M a) (hQ : Q (f_S_make_v M a) (f_S_make_m M a)) : wp_T_row M a Q := by
  refine sp_T_row M a Q ⟨fun h => absurd h h1, fun _ => ⟨fun _ => hok, fun h => absurd h2 h⟩⟩ ?_
  unfold f_T_row_v f_T_row_m; rw [if_neg h1, if_pos h2, if_neg h1, if_pos h2]; exact hQ
theorem wX_row {M : Mem} {a : Int32} {Q : Nat → Mem → Prop} (h : a < 0 ∨ ¬ a < (144 : Int32)) (hQ : Q 0 M) : wp_TX_row M a Q := by
  refine sp_TX_row M a Q ?_ ?_
  · exact ⟨fun _ => trivial, fun h1 => ⟨fun h2 => by rcases h with h | h; exact absurd h h1; exact absurd h2 h, fun _ => trivial⟩⟩
  · unfold f_TX_row_v f_TX_row_m f_TX_row_j1_v f_TX_row_j1_m
    by_cases h1 : a < 0
    · rw [if_pos h1, if_pos h1]; exact hQ
    · rcases h with h | h
      · exact absurd h h1
      · rw [if_neg h1, if_neg h, if_neg h1, if_neg h]; exact hQ
theorem wR_row {N : Mem} {a : Int32} {Q : Int32 → Mem → Prop} (h1 : ¬ a < 0) (h2 : ¬ (143 : Int32) < a) (hok : ok_R_row_l1 a 161 (0 : Int32) (0 : Int32) (E0 N)) (hQ : Q (f_R_row_l1_v a 161 (0 : Int32) (0 : Int32) (E0 N)) (f_R_row_l1_m a 161 (0 : Int32) (0 : Int32) (E0 N))) : wp_R_row N a Q := by
  refine sp_R_row N a Q ?_ ?_
  · simp only [ok_R_row, ok_R_row_j1, forall_eq, ok_in, ok_fl, in1 h1 h2, flv0 (E0_0 N), flm0, one_ne, not_false_eq_true, not_true_eq_false, true_and, forall_const, false_implies, and_true, hok]
  · simp only [f_R_row_v, f_R_row_m, f_R_row_j1_v, f_R_row_j1_m, in1 h1 h2, flv0 (E0_0 N), flm0, one_ne, if_false, if_true]; exact hQ
theorem wRx_row {N : Mem} {a : Int32} {Q : Int32 → Mem → Prop} (h : a < 0 ∨ (143 : Int32) < a) (hQ : Q 0 (mst (E0 N) 0 0 1)) : wp_R_row N a Q := by
  refine sp_R_row N a Q ?_ ?_
  · simp only [ok_R_row, ok_R_row_j1, forall_eq, ok_in, ok_fl, in0 h, flv1 (E0_0 N) (c := 1) (by decide), one_ne, not_false_eq_true, not_true_eq_false, true_and, forall_const, false_implies, and_true]
  · simp only [f_R_row_v, f_R_row_m, f_R_row_j1_v, f_R_row_j1_m, in0 h, flv1 (E0_0 N) (c := 1) (by decide), flm1 (E0_0 N), one_ne, if_false, if_true]; exact hQ
theorem wT_pixel {M : Mem} {a : Int32} {Q : Int32 → Prop} (h1 : ¬ a < 0) (h2 : a < (160 : Int32)) (hok : vp_in a 160) (hQ : Q (M 13 a.toNatClampNeg)) : wp_T_pixel M a Q := by
  refine sp_T_pixel M a Q ⟨fun h => absurd h h1, fun _ => ⟨fun _ => hok, fun h => absurd h2 h⟩⟩ ?_
  unfold f_T_pixel_v; rw [if_neg h1, if_pos h2]; exact hQ
theorem wX_pixel {M : Mem} {a : Int32} {Q : Nat → Mem → Prop} (h : a < 0 ∨ ¬ a < (160 : Int32)) (hQ : Q 1 M) : wp_TX_pixel M a Q := by
  refine sp_TX_pixel M a Q ?_ ?_
  · exact ⟨fun _ => trivial, fun h1 => ⟨fun h2 => by rcases h with h | h; exact absurd h h1; exact absurd h2 h, fun _ => trivial⟩⟩
  · unfold f_TX_pixel_v f_TX_pixel_m f_TX_pixel_j1_v f_TX_pixel_j1_m
    by_cases h1 : a < 0
    · rw [if_pos h1, if_pos h1]; exact hQ
    · rcases h with h | h
      · exact absurd h h1
      · rw [if_neg h1, if_neg h, if_neg h1, if_neg h]; exact hQ
theorem wR_pixel {N : Mem} {a : Int32} {Q : Int32 → Mem → Prop} (h1 : ¬ a < 0) (h2 : ¬ (159 : Int32) < a) (hok : vp_in a 160) (hQ : Q (E0 N 7 a.toNatClampNeg) (E0 N)) : wp_R_pixel N a Q := by
  refine sp_R_pixel N a Q ?_ ?_
  · simp only [ok_R_pixel, ok_R_pixel_j1, forall_eq, ok_in, ok_fl, in1 h1 h2, flv0 (E0_0 N), flm0, one_ne, not_false_eq_true, not_true_eq_false, true_and, forall_const, false_implies, and_true, hok]
  · simp only [f_R_pixel_v, f_R_pixel_m, f_R_pixel_j1_v, f_R_pixel_j1_m, f_R_pixel_j2_v, f_R_pixel_j2_m, in1 h1 h2, flv0 (E0_0 N), flm0, one_ne, if_false, if_true]; exact hQ
theorem wRx_pixel {N : Mem} {a : Int32} {Q : Int32 → Mem → Prop} (h : a < 0 ∨ (159 : Int32) < a) (hQ : Q 0 (mst (E0 N) 0 0 1)) : wp_R_pixel N a Q := by
  refine sp_R_pixel N a Q ?_ ?_
  · simp only [ok_R_pixel, ok_R_pixel_j1, forall_eq, ok_in, ok_fl, in0 h, flv1 (E0_0 N) (c := 1) (by decide), one_ne, not_false_eq_true, not_true_eq_false, true_and, forall_const, false_implies, and_true]
  · simp only [f_R_pixel_v, f_R_pixel_m, f_R_pixel_j1_v, f_R_pixel_j1_m, f_R_pixel_j2_v, f_R_pixel_j2_m, in0 h, flv1 (E0_0 N) (c := 1) (by decide), flm1 (E0_0 N), one_ne, if_false, if_true]; exact hQ
def keysR (N : Mem) (a : Int32) : Mem := if (a &&& ((N 0 25) ^^^ (-1 : Int32))) = 0 then mst N 0 25 a else mst (mst N 0 31 ((N 0 31) ||| (16 : Int32))) 0 25 a
theorem wT_keys {M : Mem} {a : Int32} {Q : Int32 → Mem → Prop} (h1 : ¬ a < 0) (h2 : a ≤ (255 : Int32)) (hQ : Q (f_P_press_v M a) (f_P_press_m M a)) : wp_T_keys M a Q := by
  refine sp_T_keys M a Q ⟨fun h => absurd h h1, fun _ => ⟨fun _ => trivial, fun h => absurd h2 h⟩⟩ ?_
  unfold f_T_keys_v f_T_keys_m; rw [if_neg h1, if_pos h2, if_neg h1, if_pos h2]; exact hQ
theorem wX_keys {M : Mem} {a : Int32} {Q : Nat → Mem → Prop} (h : a < 0 ∨ ¬ a ≤ (255 : Int32)) (hQ : Q 0 M) : wp_TX_keys M a Q := by
  refine sp_TX_keys M a Q ?_ ?_
  · exact ⟨fun _ => trivial, fun h1 => ⟨fun h2 => by rcases h with h | h; exact absurd h h1; exact absurd h2 h, fun _ => trivial⟩⟩
  · unfold f_TX_keys_v f_TX_keys_m f_TX_keys_j1_v f_TX_keys_j1_m
    by_cases h1 : a < 0
    · rw [if_pos h1, if_pos h1]; exact hQ
    · rcases h with h | h
      · exact absurd h h1
      · rw [if_neg h1, if_neg h, if_neg h1, if_neg h]; exact hQ
theorem wR_keys {N : Mem} {a : Int32} {Q : Int32 → Mem → Prop} (h1 : ¬ a < 0) (h2 : ¬ (255 : Int32) < a) (hQ : Q (N 0 25) (keysR (E0 N) a)) : wp_R_keys N a Q := by
  have e0 : E0 N 0 25 = N 0 25 := mst_ne (by decide)
  refine sp_R_keys N a Q ?_ ?_
  · simp only [ok_R_keys, ok_R_keys_j1, forall_eq, ok_in, ok_fl, in1 h1 h2, one_ne, not_false_eq_true, not_true_eq_false, true_and, forall_const, false_implies, and_true]
  · have e : f_R_keys_v N a = N 0 25 := by
      simp only [f_R_keys_v, f_R_keys_j1_v, f_R_keys_j2_v, in1 h1 h2, flv0 (E0_0 N), flm0, one_ne, if_false, if_true]; split
      all_goals exact e0
    have e2 : f_R_keys_m N a = keysR (E0 N) a := by
      simp only [f_R_keys_m, f_R_keys_j1_m, f_R_keys_j2_m, in1 h1 h2, flv0 (E0_0 N), flm0, one_ne, if_false, if_true, keysR]
    rw [e, e2]; exact hQ
theorem wRx_keys {N : Mem} {a : Int32} {Q : Int32 → Mem → Prop} (h : a < 0 ∨ (255 : Int32) < a) (hQ : Q 0 (mst (E0 N) 0 0 1)) : wp_R_keys N a Q := by
  refine sp_R_keys N a Q ?_ ?_
  · simp only [ok_R_keys, ok_R_keys_j1, forall_eq, ok_in, ok_fl, in0 h, one_ne, not_false_eq_true, not_true_eq_false, true_and, forall_const, false_implies, and_true]
  · simp only [f_R_keys_v, f_R_keys_m, f_R_keys_j1_v, f_R_keys_j1_m, in0 h, flv1 (E0_0 N) (c := 1) (by decide), flm1 (E0_0 N), one_ne, if_false, if_true]; exact hQ
-- count
def inS (a : Int32) : Prop := a = 0 ∨ a = 1 ∨ a = 2 ∨ a = 3 ∨ a = 4 ∨ a = 5 ∨ a = 6 ∨ a = 7 ∨ a = 8
theorem inS_of {a : Int32} (h1 : ¬ a < 0) (h2 : ¬ (8 : Int32) < a) : inS a := by
  rw [ti_lt] at h1 h2
  have c0 : (0 : Int32).toInt = 0 := by decide
  have c8 : (8 : Int32).toInt = 8 := by decide
  have h : a.toInt = 0 ∨ a.toInt = 1 ∨ a.toInt = 2 ∨ a.toInt = 3 ∨ a.toInt = 4 ∨ a.toInt = 5 ∨ a.toInt = 6 ∨ a.toInt = 7 ∨ a.toInt = 8 := by omega
  unfold inS
  rcases h with h | h | h | h | h | h | h | h | h
  · exact Or.inl (ti_inj (h.trans (by decide)))
  · exact Or.inr (Or.inl (ti_inj (h.trans (by decide))))
  · exact Or.inr (Or.inr (Or.inl (ti_inj (h.trans (by decide)))))
  · exact Or.inr (Or.inr (Or.inr (Or.inl (ti_inj (h.trans (by decide))))))
  · exact Or.inr (Or.inr (Or.inr (Or.inr (Or.inl (ti_inj (h.trans (by decide)))))))
  · exact Or.inr (Or.inr (Or.inr (Or.inr (Or.inr (Or.inl (ti_inj (h.trans (by decide))))))))
  · exact Or.inr (Or.inr (Or.inr (Or.inr (Or.inr (Or.inr (Or.inl (ti_inj (h.trans (by decide)))))))))
  · exact Or.inr (Or.inr (Or.inr (Or.inr (Or.inr (Or.inr (Or.inr (Or.inl (ti_inj (h.trans (by decide))))))))))
  · exact Or.inr (Or.inr (Or.inr (Or.inr (Or.inr (Or.inr (Or.inr (Or.inr (ti_inj (h.trans (by decide))))))))))
theorem nS_of {a : Int32} (h : a < 0 ∨ (8 : Int32) < a) : ¬ a = 0 ∧ ¬ a = 1 ∧ ¬ a = 2 ∧ ¬ a = 3 ∧ ¬ a = 4 ∧ ¬ a = 5 ∧ ¬ a = 6 ∧ ¬ a = 7 ∧ ¬ a = 8 := by
  refine ⟨?_, ?_, ?_, ?_, ?_, ?_, ?_, ?_, ?_⟩ <;> (intro e; subst e; revert h; decide)
theorem wT_count {M : Mem} {a : Int32} {Q : Int32 → Prop} (h1 : ¬ a < 0) (h2 : ¬ (8 : Int32) < a) (hQ : Q (f_T_count_v M a)) : wp_T_count M a Q := by
  refine sp_T_count M a Q ?_ hQ
  unfold ok_T_count
  rcases inS_of h1 h2 with rfl | rfl | rfl | rfl | rfl | rfl | rfl | rfl | rfl <;> simp (decide := true)
theorem wX_count {M : Mem} {a : Int32} {Q : Nat → Mem → Prop} (h : a < 0 ∨ (8 : Int32) < a) (hQ : Q 0 M) : wp_TX_count M a Q := by
  obtain ⟨e0, e1, e2, e3, e4, e5, e6, e7, e8⟩ := nS_of h
  refine sp_TX_count M a Q ?_ ?_
  · simp only [ok_TX_count, e0, e1, e2, e3, e4, e5, e6, e7, e8, not_false_eq_true, forall_const, false_implies, and_true, true_and]
  · simp only [f_TX_count_v, f_TX_count_m, e0, e1, e2, e3, e4, e5, e6, e7, e8, if_false]; exact hQ
theorem okhr (N : Mem) : ok_R_hasRam N := by
  unfold ok_R_hasRam ok_R_hasRam_j2 ok_R_hasRam_j3 ok_R_hasRam_j1
  simp only [isB_0, isB_1, implies_true, and_true, and_self]
theorem wR_count {N : Mem} {a : Int32} {Q : Int32 → Mem → Prop} (h1 : ¬ a < 0) (h2 : ¬ (8 : Int32) < a) (hQ : Q (f_R_count_v N a) (E0 N)) : wp_R_count N a Q := by
  refine sp_R_count N a Q ?_ ?_
  · simp only [ok_R_count, ok_R_count_j1, forall_eq, ok_in, ok_fl, in1 h1 h2, flv0 (E0_0 N), flm0, okhr, one_ne, not_false_eq_true, not_true_eq_false, true_and, forall_const, false_implies, and_true, implies_true]
  · have e2 : f_R_count_m N a = E0 N := by
      simp only [f_R_count_m, f_R_count_j1_m, f_R_count_j2_m, f_R_count_j3_m, f_R_count_j4_m, f_R_count_j5_m, f_R_count_j6_m, f_R_count_j7_m, in1 h1 h2, flv0 (E0_0 N), flm0, one_ne, if_false, if_true]; repeat' split
      all_goals rfl
    rw [e2]; exact hQ
theorem wRx_count {N : Mem} {a : Int32} {Q : Int32 → Mem → Prop} (h : a < 0 ∨ (8 : Int32) < a) (hQ : Q 0 (mst (E0 N) 0 0 1)) : wp_R_count N a Q := by
  refine sp_R_count N a Q ?_ ?_
  · simp only [ok_R_count, ok_R_count_j1, forall_eq, ok_in, ok_fl, in0 h, flv1 (E0_0 N) (c := 1) (by decide), one_ne, not_false_eq_true, not_true_eq_false, true_and, forall_const, false_implies, and_true]
  · simp only [f_R_count_v, f_R_count_m, f_R_count_j1_v, f_R_count_j1_m, in0 h, flv1 (E0_0 N) (c := 1) (by decide), flm1 (E0_0 N), one_ne, if_false, if_true]; exact hQ
-- speed
theorem wT_speed {M : Mem} {Q : UInt64 → Prop} (h : ¬ M 5 0 = 0) (hQ : Q (FP.dmul (FP.ddiv (4697254411347427328 : UInt64) (FP.i2d (M 5 0))) (FP.i2d (M 2 1)))) : wp_T_speed M Q := by
  refine sp_T_speed M Q ⟨fun _ => ⟨sp_n1 h, sp_n2 h⟩, fun h2 => absurd h2 h⟩ ?_
  unfold f_T_speed_v; rw [if_neg h]; exact hQ
theorem wX_speed {M : Mem} {Q : Nat → Mem → Prop} (h : M 5 0 = 0) (hQ : Q 4 M) : wp_TX_speed M Q := by
  refine sp_TX_speed M Q ⟨fun h2 => absurd h h2, fun _ => trivial⟩ ?_
  unfold f_TX_speed_v f_TX_speed_m; rw [if_pos h, if_pos h]; exact hQ
theorem wR_speed {N : Mem} {Q : UInt64 → Mem → Prop} (h : ¬ N 0 47 = 0) (hQ : Q (FP.dmul (FP.ddiv (4697254411347427328 : UInt64) (FP.i2d (N 0 47))) (FP.i2d (N 0 50))) (E0 N)) : wp_R_speed N Q := by
  have e1 : E0 N 0 47 = N 0 47 := mst_ne (by decide)
  have e2 : E0 N 0 50 = N 0 50 := mst_ne (by decide)
  refine sp_R_speed N Q ?_ ?_
  · simp only [ok_R_speed, ok_R_speed_j1, forall_eq, ok_fl, flv0 (E0_0 N), flm0, e1, e2, h, not_false_eq_true, not_true_eq_false, true_and, forall_const, false_implies, and_true]
    exact ⟨sp_n1 h, sp_n2 h⟩
  · simp only [f_R_speed_v, f_R_speed_m, f_R_speed_j1_v, f_R_speed_j1_m, flv0 (E0_0 N), flm0, e1, e2, h, if_false, if_true]; exact hQ
theorem wRx_speed {N : Mem} {Q : UInt64 → Mem → Prop} (h : N 0 47 = 0) (hQ : Q FP.dconst0 (mst (E0 N) 0 0 1)) : wp_R_speed N Q := by
  have e1 : E0 N 0 47 = N 0 47 := mst_ne (by decide)
  refine sp_R_speed N Q ?_ ?_
  · simp only [ok_R_speed, ok_R_speed_j1, forall_eq, ok_fl, flv1 (E0_0 N) (c := 1) (by decide), flm1 (E0_0 N), e1, h, one_ne, not_false_eq_true, not_true_eq_false, true_and, forall_const, false_implies, and_true]
  · simp only [f_R_speed_v, f_R_speed_m, f_R_speed_j1_v, f_R_speed_j1_m, flv1 (E0_0 N) (c := 1) (by decide), flm1 (E0_0 N), e1, h, one_ne, if_false, if_true]; exact hQ
