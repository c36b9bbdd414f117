/-! The calls of the law, on both sides, down to what they rest on. -/
abbrev E0 (N : Mem) : Mem := mst N 0 0 (0 : Int32)
theorem E0_0 (N : Mem) : E0 N 0 0 = 0 := mst_eq
theorem ok_in (N : Mem) (a lo hi : Int32) : ok_R_in N a lo hi = True := by
  unfold ok_R_in ok_R_in_j2 ok_R_in_j1
  exact eq_true ⟨fun _ => isB_0, fun _ => ⟨fun _ => isB_0, fun _ => isB_1⟩⟩
theorem ok_fl (N : Mem) (a c : Int32) : ok_R_fails N a c = True := by
  have hj : ∀ M : Mem, ok_R_fails_j1 M := fun M => ⟨fun _ => isB_0, fun _ => isB_1⟩
  exact eq_true ⟨fun _ => hj _, fun _ => ⟨fun _ => hj _, fun _ M8 _ => hj _⟩⟩
theorem in1 {N : Mem} {a lo hi : Int32} (h1 : ¬ a < lo) (h2 : ¬ hi < a) : f_R_in_v N a lo hi = 1 := by
  unfold f_R_in_v f_R_in_j2_v f_R_in_j1_v; rw [if_neg h1, if_neg h2]
theorem in0 {N : Mem} {a lo hi : Int32} (h : a < lo ∨ hi < a) : f_R_in_v N a lo hi = 0 := by
  unfold f_R_in_v f_R_in_j2_v f_R_in_j1_v
  by_cases h1 : a < lo
  · rw [if_pos h1]
  · rcases h with h | h
    · exact absurd h h1
    · rw [if_neg h1, if_pos h]
theorem flv0 {N : Mem} {c : Int32} (h : N 0 0 = 0) : f_R_fails_v N 0 c = 0 := by
  unfold f_R_fails_v f_R_fails_j1_v f_R_fails_j2_v; rw [if_pos rfl, if_pos h]
theorem flm0 {N : Mem} {c : Int32} : f_R_fails_m N 0 c = N := by
  unfold f_R_fails_m f_R_fails_j1_m f_R_fails_j2_m; rw [if_pos rfl]; split <;> rfl
theorem one_ne : ((1 : Int32) = 0) = False := by decide
theorem flv1 {N : Mem} {c : Int32} (h : N 0 0 = 0) (hc : ¬ c = 0) : f_R_fails_v N 1 c = 1 := by
  unfold f_R_fails_v f_R_fails_j1_v f_R_fails_j2_v; dsimp only
  rw [if_neg (by decide), if_pos h, mst_eq, if_neg hc]
theorem flm1 {N : Mem} {c : Int32} (h : N 0 0 = 0) : f_R_fails_m N 1 c = mst N 0 0 c := by
  unfold f_R_fails_m f_R_fails_j1_m f_R_fails_j2_m; dsimp only
  rw [if_neg (by decide), if_pos h]; split <;> rfl
theorem nlt {x y : Int32} (h : ¬ x ≤ y) : y < x := by rw [ti_le] at h; rw [ti_lt]; omega
theorem nle {x y : Int32} (h : ¬ x < y) : y ≤ x := by rw [ti_lt] at h; rw [ti_le]; omega
theorem len {x y : Int32} (h : x ≤ y) : ¬ y < x := by rw [ti_le] at h; rw [ti_lt]; omega
theorem ltn {x y : Int32} (h : x < y) : ¬ y ≤ x := by rw [ti_lt] at h; rw [ti_le]; omega
-- read
theorem wT_read {M : Mem} {a : Int32} {Q : Int32 → Prop} (h1 : ¬ a < 0) (h2 : a ≤ (65535 : Int32)) (hok : ok_Y_load M a) (hQ : Q (f_Y_load_v M a)) : wp_T_read M a Q := by
  refine sp_T_read M a Q ⟨fun h => absurd h h1, fun _ => ⟨fun _ => hok, fun h => absurd h2 h⟩⟩ ?_
  unfold f_T_read_v; rw [if_neg h1, if_pos h2]; exact hQ
theorem wX_read {M : Mem} {a : Int32} {Q : Nat → Mem → Prop} (h : a < 0 ∨ ¬ a ≤ (65535 : Int32)) (hQ : Q 0 M) : wp_TX_read M a Q := by
  refine sp_TX_read M a Q ?_ ?_
  · exact ⟨fun _ => trivial, fun h1 => ⟨fun h2 => by rcases h with h | h; exact absurd h h1; exact absurd h2 h, fun _ => trivial⟩⟩
  · unfold f_TX_read_v f_TX_read_m f_TX_read_j1_v f_TX_read_j1_m
    by_cases h1 : a < 0
    · rw [if_pos h1, if_pos h1]; exact hQ
    · rcases h with h | h
      · exact absurd h h1
      · rw [if_neg h1, if_neg h, if_neg h1, if_neg h]; exact hQ
theorem wR_read {N : Mem} {a : Int32} {Q : Int32 → Mem → Prop} (h1 : ¬ a < 0) (h2 : ¬ (65535 : Int32) < a) (hok : ok_R_get (E0 N) a) (hQ : Q (f_R_get_v (E0 N) a) (E0 N)) : wp_R_read N a Q := by
  refine sp_R_read N a Q ?_ ?_
  · simp only [ok_R_read, ok_R_read_j1, forall_eq, ok_in, ok_fl, in1 h1 h2, flv0 (E0_0 N), flm0, one_ne, not_false_eq_true, not_true_eq_false, true_and, forall_const, false_implies, and_true, hok]
  · simp only [f_R_read_v, f_R_read_m, f_R_read_j1_v, f_R_read_j1_m, f_R_read_j2_v, f_R_read_j2_m, in1 h1 h2, flv0 (E0_0 N), flm0, one_ne, if_false, if_true]; exact hQ
theorem wRx_read {N : Mem} {a : Int32} {Q : Int32 → Mem → Prop} (h : a < 0 ∨ (65535 : Int32) < a) (hQ : Q 0 (mst (E0 N) 0 0 1)) : wp_R_read N a Q := by
  refine sp_R_read N a Q ?_ ?_
  · simp only [ok_R_read, ok_R_read_j1, forall_eq, ok_in, ok_fl, in0 h, flv1 (E0_0 N) (c := 1) (by decide), one_ne, not_false_eq_true, not_true_eq_false, true_and, forall_const, false_implies, and_true]
  · simp only [f_R_read_v, f_R_read_m, f_R_read_j1_v, f_R_read_j1_m, f_R_read_j2_v, f_R_read_j2_m, in0 h, flv1 (E0_0 N) (c := 1) (by decide), flm1 (E0_0 N), one_ne, if_false, if_true]; exact hQ
