/-! Pieces of instructions. -/
theorem mst_mst {N : Mem} {c k : Nat} {v w : Int32} : mst (mst N c k v) c k w = mst N c k w := by
  funext a b
  by_cases ha : a = c
  · subst ha
    by_cases hb : b = k
    · subst hb; rw [mst_eq, mst_eq]
    · rw [mst_ne hb, mst_ne hb, mst_ne hb]
  · rw [mst_no ha, mst_no ha, mst_no ha]
def fg (w on f : Int32) : Int32 := if on = 0 then f &&& (w ^^^ (-1 : Int32)) else f ||| w
theorem flag_eq (N : Mem) (w on : Int32) : f_R_flag_m N w on = mst N 8 6 (fg w on (N 8 6)) := by
  unfold f_R_flag_m f_R_flag_j1_m fg; dsimp only; split <;> rfl
theorem flag_mst (N : Mem) (f w on : Int32) : f_R_flag_m (mst N 8 6 f) w on = mst N 8 6 (fg w on f) := by
  rw [flag_eq, mst_eq, mst_mst]
theorem fz_d : ∀ j : Fin 256, (nI j.val &&& (15 : Int32)) = 0 → j.val % 16 = 0 := by decide +kernel
theorem RX.f {d : Int32} {ρ : Nat → Int32} {M N : Mem} (h : RX d ρ M N) : ∃ j : Nat, j < 16 ∧ N 8 6 = nI (16 * j) := by
  obtain ⟨j, hj, e⟩ := of_nI (n := 256) (h.r 6).2 (by decide)
  have hz : FZ N := h.2.2.2.1
  unfold FZ at hz
  rw [e] at hz
  have h9 := fz_d ⟨j, hj⟩ hz
  dsimp only at h9
  exact ⟨j / 16, by omega, by rw [e]; congr 1; omega⟩
theorem hold_s {d : Int32} {ρ : Nat → Int32} {M N : Mem} (h : RX d ρ M N) (c : Int32) : f_Q_holds_v M c = f_R_holds_v N c := by
  unfold f_Q_holds_v f_R_holds_v f_Q_holds_j1_v f_R_holds_j1_v f_Q_holds_j2_v f_R_holds_j2_v f_Q_holds_j3_v f_R_holds_j3_v f_Q_holds_j4_v; dsimp only
  rw [(h.r 6).1, is_eq N (k := 16) (by decide), is_eq N (k := 128) (by decide)]
  have hb : (c &&& (1 : Int32)) = 0 ∨ (c &&& (1 : Int32)) = 1 := b1 c
  rcases hb with hb | hb <;> rw [hb] <;> by_cases h1 : (2 : Int32) ≤ c <;> by_cases h2 : (N 8 6 &&& (16 : Int32)) = 0 <;> by_cases h3 : (N 8 6 &&& (128 : Int32)) = 0 <;> simp (decide := true) only [h1, h2, h3, if_true, if_false]
theorem jump_s {d : Int32} {ρ : Nat → Int32} {M N : Mem} (h : RX d ρ M N) (g t : Int32) : SI d ρ M N (f_Q_jump_m M g t) (f_R_jumps_m N g t) := by
  unfold f_Q_jump_m f_R_jumps_m f_Q_jump_j1_m; dsimp only
  by_cases e : g = 0
  · rw [if_pos e, if_pos e]; exact SI.rf h
  · rw [if_neg e, if_neg e]
    have a := p_pc h (v := t &&& (65535 : Int32)) (and_lt (by decide))
    exact a.tr (p_tick a.1 1)
theorem cpst_s {d : Int32} {ρ : Nat → Int32} {M N : Mem} (h : RX d ρ M N) {a : Int32} (ha : w16 a) : SI d ρ M N (f_Q_copyA_m M a 0) (f_R_writes_m N a (N 8 7)) := by
  unfold f_Q_copyA_m f_Q_copyA_j1_m; dsimp only
  rw [if_pos rfl, mst_no (c := 5) (j := 17) (by decide), (h.r 7).1]
  exact wr_s h ha (h.r 7).2
theorem cpld_s {d : Int32} {ρ : Nat → Int32} {M N : Mem} (h : RX d ρ M N) {a g : Int32} (hg : ¬ g = 0) (ha : w16 a) : SI d ρ M N (f_Q_copyA_m M a g) (mst (f_R_reads_m N a) 8 7 (f_R_reads_v N a)) := by
  unfold f_Q_copyA_m f_Q_copyA_j1_m; dsimp only
  rw [if_neg hg, ld5]
  have t := p_tick h 1
  have l := l_rd h ha
  have e : f_R_reads_m N a = mst N 0 20 (N 0 20 + (1 : Int32)) := rfl
  rw [e, l.1]
  exact t.tr (p_r t.1 l.2 (fun e => absurd e (by decide)))
theorem io_d : ∀ j : Fin 256, ((65280 : Int32) ||| nI j.val) = (65280 : Int32) + nI j.val ∧ 0 ≤ ((65280 : Int32) + nI j.val).toInt ∧ ((65280 : Int32) + nI j.val).toInt < 65536 := by decide +kernel
theorem io_s {n : Int32} (h : oct n) : ((65280 : Int32) ||| n) = (65280 : Int32) + n ∧ w16 ((65280 : Int32) + n) := by
  obtain ⟨j, hj, e⟩ := of_nI (n := 256) h (by decide)
  rw [e]; exact io_d ⟨j, hj⟩
theorem sx_d : ∀ j : Fin 256, ((nI j.val).toInt8.toInt32) = (if nI j.val ≤ (127 : Int32) then nI j.val else nI j.val - (256 : Int32)) := by decide +kernel
theorem sx_s (N : Mem) {n : Int32} (h : oct n) : (n.toInt8.toInt32) = f_R_signed_v N n := by
  obtain ⟨j, hj, e⟩ := of_nI (n := 256) h (by decide)
  unfold f_R_signed_v f_R_signed_j1_v
  rw [e]; exact sx_d ⟨j, hj⟩
/-- increasing and decreasing -/
theorem inc_d : ∀ (j : Fin 16) (z h : Bool), fg 32 (if h then 1 else 0) (fg 64 0 (fg 128 (if z then 1 else 0) (nI (16 * j.val)))) = (((nI (16 * j.val)) &&& (16 : Int32)) ||| (if z then (128 : Int32) else 0)) ||| (if h then (32 : Int32) else 0) ∧ oct ((((nI (16 * j.val)) &&& (16 : Int32)) ||| (if z then (128 : Int32) else 0)) ||| (if h then (32 : Int32) else 0)) ∧ ((((((nI (16 * j.val)) &&& (16 : Int32)) ||| (if z then (128 : Int32) else 0)) ||| (if h then (32 : Int32) else 0))) &&& (15 : Int32)) = 0 := by decide +kernel
theorem dec_d : ∀ (j : Fin 16) (z h : Bool), fg 32 (if h then 1 else 0) (fg 64 1 (fg 128 (if z then 1 else 0) (nI (16 * j.val)))) = ((((nI (16 * j.val)) &&& (16 : Int32)) ||| (64 : Int32)) ||| (if z then (128 : Int32) else 0)) ||| (if h then (32 : Int32) else 0) ∧ oct (((((nI (16 * j.val)) &&& (16 : Int32)) ||| (64 : Int32)) ||| (if z then (128 : Int32) else 0)) ||| (if h then (32 : Int32) else 0)) ∧ (((((((nI (16 * j.val)) &&& (16 : Int32)) ||| (64 : Int32)) ||| (if z then (128 : Int32) else 0)) ||| (if h then (32 : Int32) else 0))) &&& (15 : Int32)) = 0 := by decide +kernel
theorem half_d : ∀ j : Fin 256, (((nI j.val + (1 : Int32)) &&& (255 : Int32) &&& (15 : Int32)) = 0 ↔ (nI j.val &&& (15 : Int32)) = (15 : Int32)) ∧ (((nI j.val - (1 : Int32)) &&& (255 : Int32) &&& (15 : Int32)) = (15 : Int32) ↔ (nI j.val &&& (15 : Int32)) = 0) := by decide +kernel
/-- the operand and the flags are set, in either order -/
theorem opf_s {d : Int32} {ρ : Nat → Int32} {M N : Mem} (h : RX d ρ M N) {y t f : Int32} (hy : 0 ≤ y.toInt ∧ y.toInt < 8) (ht : oct t) (hf : oct f) (hz : (f &&& (15 : Int32)) = 0) : SI d ρ M N (f_Q_setOctet_m (mst M 17 6 f) y t) (mst (f_R_setOperand_m N y t) 8 6 f) := by
  have s1 := soct_s h hy ht
  have s2 := s1.tr (p_r s1.1 (k := 6) hf (fun _ => hz))
  have e : f_Q_setOctet_m (mst M 17 6 f) y t = mst (f_Q_setOctet_m M y t) 17 6 f := by
    unfold f_Q_setOctet_m; dsimp only
    by_cases e : y = 6
    · rw [if_pos e, if_pos e, mst_no (c := 17) (j := 5) (by decide), mst_co2 (c := 17) (c' := 5) (by decide)]
      have ep : f_Q_pair_v (mst (mst M 5 10 (M 5 10 + (1 : Int32))) 17 6 f) (2 : Int32) = f_Q_pair_v (mst M 5 10 (M 5 10 + (1 : Int32))) (2 : Int32) := by
        unfold f_Q_pair_v; rw [mst_no (by decide)]
        show f_Q_pair_j1_v (((mst (mst M 5 10 (M 5 10 + (1 : Int32))) 17 6 f) 17 4 <<< _) ||| (mst (mst M 5 10 (M 5 10 + (1 : Int32))) 17 6 f) 17 5) = _
        rw [mst_ne (by decide), mst_ne (by decide)]; rfl
      rw [ep, ag_st]
    · rw [if_neg e, if_neg e, mst_comm]
      rw [and7 hy]; exact fun x => (clamp6 hy e) x.symm
  rw [e]; exact s2
theorem sop6 {d : Int32} {ρ : Nat → Int32} {M N : Mem} (h : RX d ρ M N) {y : Int32} (t : Int32) (hy : 0 ≤ y.toInt ∧ y.toInt < 8) : f_R_setOperand_m N y t 8 6 = N 8 6 := by
  unfold f_R_setOperand_m f_R_setOperand_j1_m f_R_writes_m; dsimp only
  by_cases e : y = 6
  · rw [if_pos e, put_n _ _ _ (Or.inr (Or.inl rfl)), mst_no (by decide)]
  · rw [if_neg e, mst_ne (fun x => clamp6 hy e x.symm)]
theorem inc_s {d : Int32} {ρ : Nat → Int32} {M N : Mem} (h : RX d ρ M N) {y v : Int32} (hy : 0 ≤ y.toInt ∧ y.toInt < 8) (hv : oct v) : SI d ρ M N (f_Q_setOctet_m (f_Q_increased_m M v) y (f_Q_increased_v M v)) (f_R_first_j10_m y 4 v N (v + (1 : Int32))) := by
  obtain ⟨j, hj, e⟩ := h.f
  obtain ⟨i, hi, ev⟩ := of_nI (n := 256) hv (by decide)
  have hh := (half_d ⟨i, hi⟩).1
  rw [show nI ((⟨i, hi⟩ : Fin 256) : Nat) = v from ev.symm] at hh
  have t1 : oct ((v + (1 : Int32)) &&& (255 : Int32)) := and_lt (by decide)
  unfold f_Q_increased_m f_Q_increased_v f_Q_increased_j1_m f_Q_increased_j1_v f_Q_zero_v f_Q_zero_j1_v f_R_first_j10_m f_R_first_j11_m f_R_first_j12_m f_R_first_j13_m f_R_first_j14_m f_R_first_j1_m; dsimp only
  rw [(h.r 6).1]
  simp (decide := true) only [flag_eq, mst_eq, mst_mst, sop6 h _ hy, if_false, if_true]
  by_cases a1 : ((v + (1 : Int32)) &&& (255 : Int32)) = 0 <;> by_cases a2 : ((v + (1 : Int32)) &&& (255 : Int32) &&& (15 : Int32)) = 0
  all_goals (first | have a3 := hh.mp a2 | have a3 := mt hh.mpr a2)
  · have q := inc_d ⟨j, hj⟩ true true
    simp only [if_true] at q; rw [show nI (16 * ((⟨j, hj⟩ : Fin 16) : Nat)) = N 8 6 from e.symm] at q
    simp only [a1, a3, if_true]; rw [a1] at t1
    simp (decide := true) only [if_true, if_false, q.1]
    exact opf_s h hy t1 q.2.1 q.2.2
  · exact absurd (by rw [a1]; decide) a2
  · have q := inc_d ⟨j, hj⟩ false true
    simp (decide := true) only [if_true, if_false] at q; rw [show nI (16 * ((⟨j, hj⟩ : Fin 16) : Nat)) = N 8 6 from e.symm] at q
    simp only [a1, a2, a3, if_true, if_false]
    simp (decide := true) only [if_true, if_false, q.1]
    exact opf_s h hy t1 q.2.1 q.2.2
  · have q := inc_d ⟨j, hj⟩ false false
    simp (decide := true) only [if_true, if_false] at q; rw [show nI (16 * ((⟨j, hj⟩ : Fin 16) : Nat)) = N 8 6 from e.symm] at q
    simp only [a1, a2, a3, if_true, if_false]
    simp (decide := true) only [if_true, if_false, q.1]
    exact opf_s h hy t1 q.2.1 q.2.2
theorem dec_s {d : Int32} {ρ : Nat → Int32} {M N : Mem} (h : RX d ρ M N) {y v : Int32} (hy : 0 ≤ y.toInt ∧ y.toInt < 8) (hv : oct v) : SI d ρ M N (f_Q_setOctet_m (f_Q_decreased_m M v) y (f_Q_decreased_v M v)) (f_R_first_j10_m y 5 v N (v - (1 : Int32))) := by
  obtain ⟨j, hj, e⟩ := h.f
  obtain ⟨i, hi, ev⟩ := of_nI (n := 256) hv (by decide)
  have hh := (half_d ⟨i, hi⟩).2
  rw [show nI ((⟨i, hi⟩ : Fin 256) : Nat) = v from ev.symm] at hh
  have t1 : oct ((v - (1 : Int32)) &&& (255 : Int32)) := and_lt (by decide)
  unfold f_Q_decreased_m f_Q_decreased_v f_Q_decreased_j1_m f_Q_decreased_j1_v f_Q_zero_v f_Q_zero_j1_v f_R_first_j10_m f_R_first_j11_m f_R_first_j12_m f_R_first_j13_m f_R_first_j14_m f_R_first_j1_m; dsimp only
  rw [(h.r 6).1]
  simp (decide := true) only [flag_eq, mst_eq, mst_mst, sop6 h _ hy, if_false, if_true]
  by_cases a1 : ((v - (1 : Int32)) &&& (255 : Int32)) = 0 <;> by_cases a2 : ((v - (1 : Int32)) &&& (255 : Int32) &&& (15 : Int32)) = (15 : Int32)
  all_goals (first | have a3 := hh.mp a2 | have a3 := mt hh.mpr a2)
  · exact absurd a2 (by rw [a1]; decide)
  · have q := dec_d ⟨j, hj⟩ true false
    simp (decide := true) only [if_true, if_false] at q; rw [show nI (16 * ((⟨j, hj⟩ : Fin 16) : Nat)) = N 8 6 from e.symm] at q
    rw [a1] at t1
    simp only [a1, a3, if_true, if_false]
    simp (decide := true) only [if_true, if_false, q.1]
    exact opf_s h hy t1 q.2.1 q.2.2
  · have q := dec_d ⟨j, hj⟩ false true
    simp (decide := true) only [if_true, if_false] at q; rw [show nI (16 * ((⟨j, hj⟩ : Fin 16) : Nat)) = N 8 6 from e.symm] at q
    simp only [a1, a2, a3, if_true, if_false]
    simp (decide := true) only [if_true, if_false, q.1]
    exact opf_s h hy t1 q.2.1 q.2.2
  · have q := dec_d ⟨j, hj⟩ false false
    simp (decide := true) only [if_true, if_false] at q; rw [show nI (16 * ((⟨j, hj⟩ : Fin 16) : Nat)) = N 8 6 from e.symm] at q
    simp only [a1, a2, a3, if_true, if_false]
    simp (decide := true) only [if_true, if_false, q.1]
    exact opf_s h hy t1 q.2.1 q.2.2
