/-! rom, insert, run: both sides. -/
theorem flvn {N : Mem} {x c : Int32} (hx : ¬ x = 0) (h : N 0 0 = 0) (hc : ¬ c = 0) : f_R_fails_v N x c = 1 := by
  unfold f_R_fails_v f_R_fails_j1_v f_R_fails_j2_v; dsimp only
  rw [if_neg hx, if_pos h, mst_eq, if_neg hc]
theorem flmn {N : Mem} {x c : Int32} (hx : ¬ x = 0) (h : N 0 0 = 0) : f_R_fails_m N x c = mst N 0 0 c := by
  unfold f_R_fails_m f_R_fails_j1_m f_R_fails_j2_m; dsimp only
  rw [if_neg hx, if_pos h]; split <;> rfl
theorem wT_rom {M : Mem} {b a k : Int32} {w : Int64} {Q : Int32 → Mem → Prop} (h1 : ¬ k < (1 : Int32)) (h2 : k ≤ (8 : Int32)) (h3 : ¬ b < 0) (h4 : b < (8 : Int32)) (h5 : ¬ a < 0) (h6 : a ≤ (1024 : Int32) - k) (hok : ok_T_rom_l1 b a k w 9 (0 : Int32) M) (hQ : Q (f_T_rom_l1_v b a k w 9 (0 : Int32) M) (f_T_rom_l1_m b a k w 9 (0 : Int32) M)) : wp_T_rom M b a k w Q := by
  refine sp_T_rom M b a k w Q ⟨fun h => absurd h h1, fun _ => ⟨fun _ => ⟨fun h => absurd h h3, fun _ => ⟨fun _ => ⟨fun h => absurd h h5, fun _ => ⟨fun _ => hok, fun h => absurd h6 h⟩⟩, fun h => absurd h4 h⟩⟩, fun h => absurd h2 h⟩⟩ ?_
  unfold f_T_rom_v f_T_rom_m
  rw [if_neg h1, if_pos h2, if_neg h3, if_pos h4, if_neg h5, if_pos h6, if_neg h1, if_pos h2, if_neg h3, if_pos h4, if_neg h5, if_pos h6]; exact hQ
theorem wX1_rom {M : Mem} {b a k : Int32} {w : Int64} {Q : Nat → Mem → Prop} (h : k < (1 : Int32) ∨ ¬ k ≤ (8 : Int32) ∨ b < 0 ∨ ¬ b < (8 : Int32)) (hQ : Q 0 M) : wp_TX_rom M b a k w Q := by
  by_cases h1 : k < (1 : Int32)
  · refine sp_TX_rom M b a k w Q ⟨fun _ => trivial, fun h => absurd h1 h⟩ ?_
    unfold f_TX_rom_v f_TX_rom_m f_TX_rom_j1_v f_TX_rom_j1_m; rw [if_pos h1, if_pos h1]; exact hQ
  by_cases h2 : k ≤ (8 : Int32)
  · by_cases h3 : b < 0
    · refine sp_TX_rom M b a k w Q ⟨fun h => absurd h h1, fun _ => ⟨fun _ => ⟨fun _ => trivial, fun h => absurd h3 h⟩, fun h => absurd h2 h⟩⟩ ?_
      unfold f_TX_rom_v f_TX_rom_m f_TX_rom_j2_v f_TX_rom_j2_m; rw [if_neg h1, if_pos h2, if_pos h3, if_neg h1, if_pos h2, if_pos h3]; exact hQ
    · have h4 : ¬ b < (8 : Int32) := by
        rcases h with h | h | h | h
        · exact absurd h h1
        · exact absurd h2 h
        · exact absurd h h3
        · exact h
      refine sp_TX_rom M b a k w Q ⟨fun h => absurd h h1, fun _ => ⟨fun _ => ⟨fun h => absurd h h3, fun _ => ⟨fun h => absurd h h4, fun _ => trivial⟩⟩, fun h => absurd h2 h⟩⟩ ?_
      unfold f_TX_rom_v f_TX_rom_m f_TX_rom_j2_v f_TX_rom_j2_m; rw [if_neg h1, if_pos h2, if_neg h3, if_neg h4, if_neg h1, if_pos h2, if_neg h3, if_neg h4]; exact hQ
  · refine sp_TX_rom M b a k w Q ⟨fun h => absurd h h1, fun _ => ⟨fun h => absurd h h2, fun _ => trivial⟩⟩ ?_
    unfold f_TX_rom_v f_TX_rom_m f_TX_rom_j1_v f_TX_rom_j1_m; rw [if_neg h1, if_neg h2, if_neg h1, if_neg h2]; exact hQ
theorem wX2_rom {M : Mem} {b a k : Int32} {w : Int64} {Q : Nat → Mem → Prop} (h1 : ¬ k < (1 : Int32)) (h2 : k ≤ (8 : Int32)) (h3 : ¬ b < 0) (h4 : b < (8 : Int32)) (h : a < 0 ∨ ¬ a ≤ (1024 : Int32) - k) (hQ : Q 1 M) : wp_TX_rom M b a k w Q := by
  by_cases h5 : a < 0
  · refine sp_TX_rom M b a k w Q ⟨fun h => absurd h h1, fun _ => ⟨fun _ => ⟨fun h => absurd h h3, fun _ => ⟨fun _ => ⟨fun _ => trivial, fun h => absurd h5 h⟩, fun h => absurd h4 h⟩⟩, fun h => absurd h2 h⟩⟩ ?_
    unfold f_TX_rom_v f_TX_rom_m f_TX_rom_j3_v f_TX_rom_j3_m; rw [if_neg h1, if_pos h2, if_neg h3, if_pos h4, if_pos h5, if_neg h1, if_pos h2, if_neg h3, if_pos h4, if_pos h5]; exact hQ
  · have h6 : ¬ a ≤ (1024 : Int32) - k := by
      rcases h with h | h
      · exact absurd h h5
      · exact h
    refine sp_TX_rom M b a k w Q ⟨fun h => absurd h h1, fun _ => ⟨fun _ => ⟨fun h => absurd h h3, fun _ => ⟨fun _ => ⟨fun h => absurd h h5, fun _ => ⟨fun h => absurd h h6, fun _ => trivial⟩⟩, fun h => absurd h4 h⟩⟩, fun h => absurd h2 h⟩⟩ ?_
    unfold f_TX_rom_v f_TX_rom_m f_TX_rom_j3_v f_TX_rom_j3_m; rw [if_neg h1, if_pos h2, if_neg h3, if_pos h4, if_neg h5, if_neg h6, if_neg h1, if_pos h2, if_neg h3, if_pos h4, if_neg h5, if_neg h6]; exact hQ
theorem wR_rom {N : Mem} {b a k : Int32} {w : Int64} {Q : Int32 → Mem → Prop} (h1 : ¬ k < (1 : Int32)) (h2 : ¬ (8 : Int32) < k) (h3 : ¬ b < 0) (h4 : ¬ (7 : Int32) < b) (h5 : ¬ a < 0) (h6 : ¬ (1024 : Int32) - k < a) (hok : ok_R_rom_l1 b a k w 9 (0 : Int32) (E0 N)) (hQ : Q (f_R_rom_l1_v b a k w 9 (0 : Int32) (E0 N)) (f_R_rom_l1_m b a k w 9 (0 : Int32) (E0 N))) : wp_R_rom N b a k w Q := by
  refine sp_R_rom N b a k w Q ?_ ?_
  · simp only [ok_R_rom, ok_R_rom_j1, ok_R_rom_j3, ok_R_rom_j4, forall_eq, ok_in, ok_fl, in1 h1 h2, in1 h3 h4, in1 h5 h6, flv0 (E0_0 N), flm0, one_ne, not_false_eq_true, not_true_eq_false, true_and, forall_const, false_implies, and_true, hok]
  · simp only [f_R_rom_v, f_R_rom_m, f_R_rom_j1_v, f_R_rom_j1_m, f_R_rom_j3_v, f_R_rom_j3_m, in1 h1 h2, in1 h3 h4, in1 h5 h6, flv0 (E0_0 N), flm0, one_ne, if_false, if_true]; exact hQ
theorem wRx1_rom {N : Mem} {b a k : Int32} {w : Int64} {Q : Int32 → Mem → Prop} (h : (k < (1 : Int32) ∨ (8 : Int32) < k) ∨ (b < 0 ∨ (7 : Int32) < b)) (hQ : Q 0 (mst (E0 N) 0 0 1)) : wp_R_rom N b a k w Q := by
  by_cases h1 : k < (1 : Int32) ∨ (8 : Int32) < k
  · refine sp_R_rom N b a k w Q ?_ ?_
    · simp only [ok_R_rom, ok_R_rom_j1, ok_R_rom_j4, forall_eq, ok_in, ok_fl, in0 h1, flv1 (E0_0 N) (c := 1) (by decide), one_ne, not_false_eq_true, not_true_eq_false, true_and, forall_const, false_implies, and_true]
    · simp only [f_R_rom_v, f_R_rom_m, f_R_rom_j1_v, f_R_rom_j1_m, f_R_rom_j2_v, f_R_rom_j2_m, f_R_rom_j4_v, f_R_rom_j4_m, in0 h1, flv1 (E0_0 N) (c := 1) (by decide), flm1 (E0_0 N), one_ne, if_false, if_true]; exact hQ
  · have h2 : b < 0 ∨ (7 : Int32) < b := by
      rcases h with h | h
      · exact absurd h h1
      · exact h
    have h3 : ¬ k < (1 : Int32) := fun x => h1 (Or.inl x)
    have h4 : ¬ (8 : Int32) < k := fun x => h1 (Or.inr x)
    refine sp_R_rom N b a k w Q ?_ ?_
    · simp only [ok_R_rom, ok_R_rom_j1, ok_R_rom_j4, forall_eq, ok_in, ok_fl, in1 h3 h4, in0 h2, flv1 (E0_0 N) (c := 1) (by decide), one_ne, not_false_eq_true, not_true_eq_false, true_and, forall_const, false_implies, and_true]
    · simp only [f_R_rom_v, f_R_rom_m, f_R_rom_j1_v, f_R_rom_j1_m, f_R_rom_j2_v, f_R_rom_j2_m, f_R_rom_j4_v, f_R_rom_j4_m, in1 h3 h4, in0 h2, flv1 (E0_0 N) (c := 1) (by decide), flm1 (E0_0 N), one_ne, if_false, if_true]; exact hQ
theorem wRx2_rom {N : Mem} {b a k : Int32} {w : Int64} {Q : Int32 → Mem → Prop} (h1 : ¬ k < (1 : Int32)) (h2 : ¬ (8 : Int32) < k) (h3 : ¬ b < 0) (h4 : ¬ (7 : Int32) < b) (h : a < 0 ∨ (1024 : Int32) - k < a) (hQ : Q 0 (mst (E0 N) 0 0 2)) : wp_R_rom N b a k w Q := by
  refine sp_R_rom N b a k w Q ?_ ?_
  · simp only [ok_R_rom, ok_R_rom_j1, ok_R_rom_j3, ok_R_rom_j4, forall_eq, ok_in, ok_fl, in1 h1 h2, in1 h3 h4, in0 h, flv0 (E0_0 N), flm0, flv1 (E0_0 N) (c := 2) (by decide), one_ne, not_false_eq_true, not_true_eq_false, true_and, forall_const, false_implies, and_true]
  · simp only [f_R_rom_v, f_R_rom_m, f_R_rom_j1_v, f_R_rom_j1_m, f_R_rom_j2_v, f_R_rom_j2_m, f_R_rom_j3_v, f_R_rom_j3_m, in1 h1 h2, in1 h3 h4, in0 h, flv0 (E0_0 N), flm0, flv1 (E0_0 N) (c := 2) (by decide), flm1 (E0_0 N), one_ne, if_false, if_true]; exact hQ
-- insert
def hx (ρ : Nat → Int32) (n : Nat) : Int32 → Int32 → Int32 := Nat.rec (motive := fun _ => Int32 → Int32 → Int32) (fun x _ => x) (fun _ K x a => if (333 : Int32) ≤ a then x else K ((x - ρ a.toNatClampNeg) - (1 : Int32)) (a + (1 : Int32))) n
theorem hx_s (ρ : Nat → Int32) (n : Nat) (x a : Int32) : hx ρ (n + 1) x a = if (333 : Int32) ≤ a then x else hx ρ n ((x - ρ a.toNatClampNeg) - (1 : Int32)) (a + (1 : Int32)) := rfl
theorem a1_ti {a : Int32} (h : a.toInt < 2147483647) : (a + (1 : Int32)).toInt = a.toInt + 1 := by
  have h1 : (1 : Int32).toInt = 1 := by decide
  have h2 := any_rng a
  rw [ti_add (by omega) (by omega), h1]
theorem hd_T {M : Mem} {ρ : Nat → Int32} (hρ : M 6 = ρ) : ∀ (n : Nat) (x a : Int32), 308 ≤ a.toInt → a.toInt ≤ 333 → 333 < a.toInt + n → f_K_headerAgrees_l1_v M n x a = if (hx ρ n x a &&& (255 : Int32)) = ρ 333 then 1 else 0 := by
  intro n
  induction n with
  | zero => intro x a h1 h2 h3; exact absurd h3 (by omega)
  | succ n ih =>
    intro x a h1 h2 h3
    rw [f_K_headerAgrees_l1_v_s, hx_s]; dsimp only
    by_cases hc : (333 : Int32) ≤ a
    · rw [if_pos hc, if_pos hc, hρ]; unfold f_K_headerAgrees_j1_v; rfl
    · rw [if_neg hc, if_neg hc, hρ]
      rw [ti_le] at hc
      have h333 : (333 : Int32).toInt = 333 := by decide
      have h7 := a1_ti (a := a) (by omega)
      exact ih _ _ (by omega) (by omega) (by omega)
theorem hd_R {N : Mem} {ρ : Nat → Int32} {k : Int32} (hρ : N 1 = ρ) : ∀ (n : Nat) (x a : Int32), 308 ≤ a.toInt → a.toInt ≤ 333 → 333 < a.toInt + n →
    f_R_insert_l1_v k N n x a = (if f_R_in_v N k 0 3 = 0 then f_R_insert_j1_v k N (hx ρ n x a) 1 else f_R_insert_j1_v k N (hx ρ n x a) 0) ∧ f_R_insert_l1_m k N n x a = (if f_R_in_v N k 0 3 = 0 then f_R_insert_j1_m k N (hx ρ n x a) 1 else f_R_insert_j1_m k N (hx ρ n x a) 0) ∧ ((if f_R_in_v N k 0 3 = 0 then ok_R_insert_j1 k N (hx ρ n x a) 1 else ok_R_insert_j1 k N (hx ρ n x a) 0) → ok_R_insert_l1 k N n x a) := by
  subst hρ
  intro n
  induction n with
  | zero => intro x a h1 h2 h3; exact absurd h3 (by omega)
  | succ n ih =>
    intro x a h1 h2 h3
    rw [f_R_insert_l1_v_s, f_R_insert_l1_m_s, hx_s]; dsimp only
    by_cases hc : (333 : Int32) ≤ a
    · rw [if_pos hc, if_pos hc, if_pos hc]
      refine ⟨rfl, rfl, fun h => ⟨fun _ => ⟨(ok_in N k 0 3).mpr trivial, fun x4 e4 => ?_⟩, fun h => absurd hc h⟩⟩
      subst e4
      refine ⟨fun hn => ?_, fun hn => ?_⟩
      · rw [if_neg hn] at h; exact h
      · rw [if_pos hn] at h; exact h
    · rw [if_neg hc, if_neg hc, if_neg hc]
      have hc0 := hc
      rw [ti_le] at hc
      have h333 : (333 : Int32).toInt = 333 := by decide
      have h7 := a1_ti (a := a) (by omega)
      obtain ⟨e1, e2, e3⟩ := ih ((x - N 1 a.toNatClampNeg) - (1 : Int32)) (a + (1 : Int32)) (by omega) (by omega) (by omega)
      refine ⟨e1, e2, fun h => ⟨fun h => absurd h hc0, fun _ => ⟨vp_iff.mpr (by omega), fun x63 e63 x64 e64 => ?_⟩⟩⟩
      subst e63; subst e64; exact e3 h
abbrev hdr (ρ : Nat → Int32) : Prop := (hx ρ 26 0 308 &&& (255 : Int32)) = ρ 333
theorem hdT {M : Mem} {ρ : Nat → Int32} (hρ : M 6 = ρ) : f_K_headerAgrees_v M = if hdr ρ then 1 else 0 := hd_T hρ 26 0 308 (by decide) (by decide) (by decide)
theorem wT_insert {M : Mem} {k : Int32} {Q : Int32 → Mem → Prop} (h1 : ¬ k < 0) (h2 : k ≤ (3 : Int32)) (okh : ok_K_headerAgrees M) (hh : ¬ f_K_headerAgrees_v M = 0) (oks : ok_T_startAnew (mst (mst M 1 2 (1 : Int32)) 1 3 k)) (hQ : Q 1 (f_T_startAnew_m (mst (mst M 1 2 (1 : Int32)) 1 3 k))) : wp_T_insert M k Q := by
  refine sp_T_insert M k Q ⟨fun h => absurd h h1, fun _ => ⟨fun _ => ⟨okh, fun x5 e5 => ⟨fun _ M6 e6 M7 e7 => by subst e6; subst e7; exact oks, fun h0 => absurd (e5 ▸ h0) hh⟩⟩, fun h => absurd h2 h⟩⟩ ?_
  unfold f_T_insert_v f_T_insert_m; dsimp only
  rw [if_neg h1, if_pos h2, if_neg hh, if_neg h1, if_pos h2, if_neg hh]; exact hQ
theorem wX1_insert {M : Mem} {k : Int32} {Q : Nat → Mem → Prop} (h : k < 0 ∨ ¬ k ≤ (3 : Int32)) (hQ : Q 0 M) : wp_TX_insert M k Q := by
  by_cases h1 : k < 0
  · refine sp_TX_insert M k Q ⟨fun _ => trivial, fun h => absurd h1 h⟩ ?_
    unfold f_TX_insert_v f_TX_insert_m f_TX_insert_j1_v f_TX_insert_j1_m; rw [if_pos h1, if_pos h1]; exact hQ
  · have h2 : ¬ k ≤ (3 : Int32) := by
      rcases h with h | h
      · exact absurd h h1
      · exact h
    refine sp_TX_insert M k Q ⟨fun h => absurd h h1, fun _ => ⟨fun h => absurd h h2, fun _ => trivial⟩⟩ ?_
    unfold f_TX_insert_v f_TX_insert_m f_TX_insert_j1_v f_TX_insert_j1_m; rw [if_neg h1, if_neg h2, if_neg h1, if_neg h2]; exact hQ
theorem wX2_insert {M : Mem} {k : Int32} {Q : Nat → Mem → Prop} (h1 : ¬ k < 0) (h2 : k ≤ (3 : Int32)) (okh : ok_K_headerAgrees M) (hh : f_K_headerAgrees_v M = 0) (hQ : Q 2 M) : wp_TX_insert M k Q := by
  refine sp_TX_insert M k Q ⟨fun h => absurd h h1, fun _ => ⟨fun _ => ⟨okh, fun x5 e5 => ⟨fun hn => absurd (e5.trans hh) hn, fun _ => trivial⟩⟩, fun h => absurd h2 h⟩⟩ ?_
  unfold f_TX_insert_v f_TX_insert_m; dsimp only
  rw [if_neg h1, if_pos h2, if_pos hh, if_neg h1, if_pos h2, if_pos hh]; exact hQ
theorem E0_1 (N : Mem) : E0 N 1 = N 1 := mst_no (by decide)
theorem wR_insert {N : Mem} {k : Int32} {Q : Int32 → Mem → Prop} (h1 : ¬ k < 0) (h2 : ¬ (3 : Int32) < k) (hh : hdr (N 1)) (oks : ok_R_reset (mst (mst (E0 N) 0 8 (1 : Int32)) 0 10 k)) (hQ : Q 1 (f_R_reset_m (mst (mst (E0 N) 0 8 (1 : Int32)) 0 10 k))) : wp_R_insert N k Q := by
  obtain ⟨e1, e2, e3⟩ := hd_R (N := E0 N) (k := k) (E0_1 N) 26 0 308 (by decide) (by decide) (by decide)
  have i1 : f_R_in_v (E0 N) k 0 3 = 1 := in1 h1 h2
  rw [i1, if_neg (by decide)] at e1 e2 e3
  have hh2 : (hx (N 1) 26 0 308 &&& (255 : Int32)) = E0 N 1 333 := by rw [E0_1]; exact hh
  refine sp_R_insert N k Q ?_ ?_
  · intro M1 hM1; subst hM1; apply e3
    simp only [ok_R_insert_j1, ok_R_insert_j3, forall_eq, ok_fl, flv0 (E0_0 N), flm0, hh2, not_false_eq_true, not_true_eq_false, true_and, forall_const, false_implies, and_true, oks]
  · unfold f_R_insert_v f_R_insert_m; dsimp only
    rw [e1, e2]
    simp only [f_R_insert_j1_v, f_R_insert_j1_m, f_R_insert_j3_v, f_R_insert_j3_m, flv0 (E0_0 N), flm0, hh2, if_true]; exact hQ
theorem wRx1_insert {N : Mem} {k : Int32} {Q : Int32 → Mem → Prop} (h : k < 0 ∨ (3 : Int32) < k) (hQ : Q 0 (mst (E0 N) 0 0 1)) : wp_R_insert N k Q := by
  obtain ⟨e1, e2, e3⟩ := hd_R (N := E0 N) (k := k) (E0_1 N) 26 0 308 (by decide) (by decide) (by decide)
  have i1 : f_R_in_v (E0 N) k 0 3 = 0 := in0 h
  rw [i1, if_pos rfl] at e1 e2 e3
  refine sp_R_insert N k Q ?_ ?_
  · intro M1 hM1; subst hM1; apply e3
    simp only [ok_R_insert_j1, forall_eq, ok_fl, flv1 (E0_0 N) (c := 1) (by decide), one_ne, not_false_eq_true, not_true_eq_false, true_and, forall_const, false_implies, and_true]
  · unfold f_R_insert_v f_R_insert_m; dsimp only
    rw [e1, e2]
    simp only [f_R_insert_j1_v, f_R_insert_j1_m, f_R_insert_j2_v, f_R_insert_j2_m, flv1 (E0_0 N) (c := 1) (by decide), flm1 (E0_0 N), one_ne, if_false]; exact hQ
theorem wRx2_insert {N : Mem} {k : Int32} {Q : Int32 → Mem → Prop} (h1 : ¬ k < 0) (h2 : ¬ (3 : Int32) < k) (hh : ¬ hdr (N 1)) (hQ : Q 0 (mst (E0 N) 0 0 2)) : wp_R_insert N k Q := by
  obtain ⟨e1, e2, e3⟩ := hd_R (N := E0 N) (k := k) (E0_1 N) 26 0 308 (by decide) (by decide) (by decide)
  have i1 : f_R_in_v (E0 N) k 0 3 = 1 := in1 h1 h2
  rw [i1, if_neg (by decide)] at e1 e2 e3
  have hh2 : ¬ (hx (N 1) 26 0 308 &&& (255 : Int32)) = E0 N 1 333 := by rw [E0_1]; exact hh
  refine sp_R_insert N k Q ?_ ?_
  · intro M1 hM1; subst hM1; apply e3
    simp only [ok_R_insert_j1, ok_R_insert_j3, forall_eq, ok_fl, flv0 (E0_0 N), flm0, flv1 (E0_0 N) (c := 2) (by decide), hh2, one_ne, not_false_eq_true, not_true_eq_false, true_and, forall_const, false_implies, and_true]
  · unfold f_R_insert_v f_R_insert_m; dsimp only
    rw [e1, e2]
    simp only [f_R_insert_j1_v, f_R_insert_j1_m, f_R_insert_j2_v, f_R_insert_j2_m, f_R_insert_j3_v, f_R_insert_j3_m, flv0 (E0_0 N), flm0, flv1 (E0_0 N) (c := 2) (by decide), flm1 (E0_0 N), hh2, one_ne, if_true, if_false]; exact hQ
-- run
theorem wT_run {M : Mem} {a : Int32} {Q : Int32 → Mem → Prop} (h1 : ¬ a < (1 : Int32)) (h2 : a ≤ (100 : Int32)) (h3 : ¬ M 1 2 = 0) (hok : ok_T_run_l1 a (M 5 0) 101 (0 : Int32) M) (hQ : Q (f_T_run_l1_v a (M 5 0) 101 (0 : Int32) M) (f_T_run_l1_m a (M 5 0) 101 (0 : Int32) M)) : wp_T_run M a Q := by
  refine sp_T_run M a Q ⟨fun h => absurd h h1, fun _ => ⟨fun _ => ⟨fun _ x10 e10 => by subst e10; exact hok, fun h => absurd h h3⟩, fun h => absurd h2 h⟩⟩ ?_
  unfold f_T_run_v f_T_run_m; dsimp only
  rw [if_neg h1, if_pos h2, if_neg h3, if_neg h1, if_pos h2, if_neg h3]; exact hQ
theorem wX1_run {M : Mem} {a : Int32} {Q : Nat → Mem → Prop} (h : a < (1 : Int32) ∨ ¬ a ≤ (100 : Int32)) (hQ : Q 0 M) : wp_TX_run M a Q := by
  by_cases h1 : a < (1 : Int32)
  · refine sp_TX_run M a Q ⟨fun _ => trivial, fun h => absurd h1 h⟩ ?_
    unfold f_TX_run_v f_TX_run_m f_TX_run_j1_v f_TX_run_j1_m; rw [if_pos h1, if_pos h1]; exact hQ
  · have h2 : ¬ a ≤ (100 : Int32) := by
      rcases h with h | h
      · exact absurd h h1
      · exact h
    refine sp_TX_run M a Q ⟨fun h => absurd h h1, fun _ => ⟨fun h => absurd h h2, fun _ => trivial⟩⟩ ?_
    unfold f_TX_run_v f_TX_run_m f_TX_run_j1_v f_TX_run_j1_m; rw [if_neg h1, if_neg h2, if_neg h1, if_neg h2]; exact hQ
theorem wX2_run {M : Mem} {a : Int32} {Q : Nat → Mem → Prop} (h1 : ¬ a < (1 : Int32)) (h2 : a ≤ (100 : Int32)) (h3 : M 1 2 = 0) (hQ : Q 2 M) : wp_TX_run M a Q := by
  refine sp_TX_run M a Q ⟨fun h => absurd h h1, fun _ => ⟨fun _ => ⟨fun h => absurd h3 h, fun _ => trivial⟩, fun h => absurd h2 h⟩⟩ ?_
  unfold f_TX_run_v f_TX_run_m; rw [if_neg h1, if_pos h2, if_pos h3, if_neg h1, if_pos h2, if_pos h3]; exact hQ
theorem wX3_run {M : Mem} {a : Int32} {Q : Nat → Mem → Prop} (h1 : ¬ a < (1 : Int32)) (h2 : a ≤ (100 : Int32)) (h3 : ¬ M 1 2 = 0) (hok : ok_TX_run_l1 a 101 (0 : Int32) M) (hQ : Q (f_TX_run_l1_v a 101 (0 : Int32) M) (f_TX_run_l1_m a 101 (0 : Int32) M)) : wp_TX_run M a Q := by
  refine sp_TX_run M a Q ⟨fun h => absurd h h1, fun _ => ⟨fun _ => ⟨fun _ x10 e10 => hok, fun h => absurd h h3⟩, fun h => absurd h2 h⟩⟩ ?_
  unfold f_TX_run_v f_TX_run_m; rw [if_neg h1, if_pos h2, if_neg h3, if_neg h1, if_pos h2, if_neg h3]; exact hQ
theorem run_T {a x10 : Int32} {d : Int32} {ρ : Nat → Int32} (ha : a.toInt ≤ 100) : ∀ (n : Nat) (x : Int32) (M : Mem), 0 ≤ x.toInt → x.toInt ≤ 100 → 100 < x.toInt + n → SC d ρ M →
    (ok_T_run_l1 a x10 n x M ∧ SC d ρ (f_T_run_l1_m a x10 n x M)) ∨ (ok_TX_run_l1 a n x M ∧ SC d ρ (f_TX_run_l1_m a n x M) ∧ f_TX_run_l1_v a n x M = 3) := by
  intro n
  induction n with
  | zero => intro x M h1 h2 h3; exact absurd h3 (by omega)
  | succ n ih =>
    intro x M h1 h2 h3 sM
    rw [f_T_run_l1_m_s, f_TX_run_l1_m_s, f_TX_run_l1_v_s]; dsimp only
    by_cases hc : a ≤ x
    · rw [if_pos hc]; exact Or.inl ⟨⟨fun _ => trivial, fun h => absurd hc h⟩, sM⟩
    · rw [if_neg hc, if_neg hc, if_neg hc]
      have hx : x.toInt < 100 := by rw [ti_le] at hc; omega
      have h7 := a1_ti (a := x) (by omega)
      have key : ∀ M' : Mem, SC d ρ M' → (ok_T_run_j2 x (ok_T_run_l1 a x10 n) M' ∧ SC d ρ (f_T_run_j2_m x (f_T_run_l1_m a x10 n) M')) ∨ (ok_TX_run_j2 x (ok_TX_run_l1 a n) M' ∧ SC d ρ (f_TX_run_j2_m x (f_TX_run_l1_m a n) M') ∧ f_TX_run_j2_v x (f_TX_run_l1_v a n) M' = 3) := by
        intro M' sM'
        unfold ok_T_run_j2 f_T_run_j2_m ok_TX_run_j2 f_TX_run_j2_m f_TX_run_j2_v; dsimp only
        by_cases hl : M' 5 5 = 0
        · rw [if_pos hl, if_pos hl, if_pos hl]
          rcases ih (x + (1 : Int32)) M' (by omega) (by omega) (by omega) sM' with h | h
          · exact Or.inl ⟨⟨fun _ x17 e17 => by subst e17; exact h.1, fun hn => absurd hl hn⟩, h.2⟩
          · exact Or.inr ⟨⟨fun _ x17 e17 => by subst e17; exact h.1, fun hn => absurd hl hn⟩, h.2⟩
        · rw [if_neg hl, if_neg hl, if_neg hl]
          exact Or.inr ⟨⟨fun h => absurd h hl, fun _ => trivial⟩, sM', rfl⟩
      by_cases hl : M 5 5 = 0
      · rw [if_pos hl, if_pos hl, if_pos hl]
        have hs := so_Q_step M sM
        rcases key (f_Q_step_m M) hs.2 with h | h
        · exact Or.inl ⟨⟨fun h => absurd h hc, fun _ => ⟨fun hn => absurd hl hn, fun _ => ⟨hs.1, fun M18 e18 => by subst e18; exact h.1⟩⟩⟩, h.2⟩
        · exact Or.inr ⟨⟨fun h => absurd h hc, fun _ => ⟨fun hn => absurd hl hn, fun _ => ⟨hs.1, fun M18 e18 => by subst e18; exact h.1⟩⟩⟩, h.2⟩
      · rw [if_neg hl, if_neg hl, if_neg hl]
        rcases key M sM with h | h
        · exact Or.inl ⟨⟨fun h => absurd h hc, fun _ => ⟨fun _ => h.1, fun h => absurd h hl⟩⟩, h.2⟩
        · exact Or.inr ⟨⟨fun h => absurd h hc, fun _ => ⟨fun _ => h.1, fun h => absurd h hl⟩⟩, h.2⟩
theorem wR_run {N : Mem} {a : Int32} {Q : Int32 → Mem → Prop} (h1 : ¬ a < (1 : Int32)) (h2 : ¬ (100 : Int32) < a) (h3 : ¬ N 0 8 = 0) (h4 : N 0 23 = 0) (hok : ok_R_run_l1 a 101 (0 : Int32) (0 : Int32) (E0 N)) (hQ : Q (f_R_run_l1_v a 101 (0 : Int32) (0 : Int32) (E0 N)) (f_R_run_l1_m a 101 (0 : Int32) (0 : Int32) (E0 N))) : wp_R_run N a Q := by
  have e8 : E0 N 0 8 = N 0 8 := mst_ne (by decide)
  have e23 : E0 N 0 23 = 0 := (mst_ne (by decide)).trans h4
  refine sp_R_run N a Q ?_ ?_
  · simp only [ok_R_run, ok_R_run_j1, ok_R_run_j3, forall_eq, ok_in, ok_fl, in1 h1 h2, flv0 (E0_0 N), flm0, e8, h3, e23, one_ne, not_false_eq_true, not_true_eq_false, true_and, forall_const, false_implies, and_true, hok]
  · simp only [f_R_run_v, f_R_run_m, f_R_run_j1_v, f_R_run_j1_m, f_R_run_j3_v, f_R_run_j3_m, in1 h1 h2, flv0 (E0_0 N), flm0, e8, h3, e23, one_ne, if_false, if_true]; exact hQ
theorem wRx1_run {N : Mem} {a : Int32} {Q : Int32 → Mem → Prop} (h : a < (1 : Int32) ∨ (100 : Int32) < a) (hQ : Q 0 (mst (E0 N) 0 0 1)) : wp_R_run N a Q := by
  refine sp_R_run N a Q ?_ ?_
  · simp only [ok_R_run, ok_R_run_j1, forall_eq, ok_in, ok_fl, in0 h, flv1 (E0_0 N) (c := 1) (by decide), one_ne, not_false_eq_true, not_true_eq_false, true_and, forall_const, false_implies, and_true]
  · simp only [f_R_run_v, f_R_run_m, f_R_run_j1_v, f_R_run_j1_m, f_R_run_j2_v, f_R_run_j2_m, in0 h, flv1 (E0_0 N) (c := 1) (by decide), flm1 (E0_0 N), one_ne, if_false, if_true]; exact hQ
theorem wRx2_run {N : Mem} {a : Int32} {Q : Int32 → Mem → Prop} (h1 : ¬ a < (1 : Int32)) (h2 : ¬ (100 : Int32) < a) (h3 : N 0 8 = 0) (hQ : Q 0 (mst (E0 N) 0 0 2)) : wp_R_run N a Q := by
  have e8 : E0 N 0 8 = 0 := (mst_ne (by decide)).trans h3
  refine sp_R_run N a Q ?_ ?_
  · simp only [ok_R_run, ok_R_run_j1, ok_R_run_j3, forall_eq, ok_in, ok_fl, in1 h1 h2, flv0 (E0_0 N), flm0, flv1 (E0_0 N) (c := 2) (by decide), e8, one_ne, not_false_eq_true, not_true_eq_false, true_and, forall_const, false_implies, and_true]
  · simp only [f_R_run_v, f_R_run_m, f_R_run_j1_v, f_R_run_j1_m, f_R_run_j2_v, f_R_run_j2_m, f_R_run_j3_v, f_R_run_j3_m, in1 h1 h2, flv0 (E0_0 N), flm0, flv1 (E0_0 N) (c := 2) (by decide), flm1 (E0_0 N), e8, one_ne, if_false, if_true]; exact hQ
theorem wRx3_run {N : Mem} {a : Int32} {Q : Int32 → Mem → Prop} (h1 : ¬ a < (1 : Int32)) (h2 : ¬ (100 : Int32) < a) (h3 : ¬ N 0 8 = 0) (h4 : ¬ N 0 23 = 0) (hQ : Q 0 (mst (E0 N) 0 0 3)) : wp_R_run N a Q := by
  have e8 : E0 N 0 8 = N 0 8 := mst_ne (by decide)
  have e23 : ¬ E0 N 0 23 = 0 := fun h => h4 ((mst_ne (by decide)).symm.trans h)
  refine sp_R_run N a Q ?_ ?_
  · simp only [ok_R_run, ok_R_run_j1, ok_R_run_j3, forall_eq, ok_in, ok_fl, in1 h1 h2, flv0 (E0_0 N), flm0, flvn e23 (E0_0 N) (c := 3) (by decide), e8, h3, one_ne, not_false_eq_true, not_true_eq_false, true_and, forall_const, false_implies, and_true]
  · simp only [f_R_run_v, f_R_run_m, f_R_run_j1_v, f_R_run_j1_m, f_R_run_j2_v, f_R_run_j2_m, f_R_run_j3_v, f_R_run_j3_m, in1 h1 h2, flv0 (E0_0 N), flm0, flvn e23 (E0_0 N) (c := 3) (by decide), flmn e23 (E0_0 N), e8, h3, one_ne, if_false, if_true]; exact hQ
