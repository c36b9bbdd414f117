/-! A cycle, many cycles. -/
theorem RP.n {M N : Mem} (h : RP M N) {j : Nat} (hj : pt.all (fun q => q.2.2 != j) = true) (hs : ¬ j = 33 ∧ ¬ j = 37 ∧ ¬ j = 45) (v : Int32) : RP M (mst N 0 j v) := by
  refine ⟨fun q hq => ?_, ?_⟩
  · have h9 := List.all_eq_true.mp hj q hq
    rw [mst_ne (by simpa using h9)]; exact h.1 q hq
  · rw [state_c (mst_ne (Ne.symm hs.1)) (mst_ne (Ne.symm hs.2.1)) (mst_ne (Ne.symm hs.2.2))]; exact h.2
theorem state4 (N : Mem) : 0 ≤ (f_R_state_v N).toInt ∧ (f_R_state_v N).toInt < 4 := by
  unfold f_R_state_v f_R_state_j1_v; repeat' split
  all_goals decide
def passOne (M : Mem) : Mem := f_P_lookAtSignal_m (f_P_findState_m (f_P_moveDot_m (f_P_moveTimer_m (mst M 2 3 (((M 2 3) + (1 : Int32)) &&& (65535 : Int32))))))
theorem po_c (M : Mem) {c : Nat} (hc : ¬ c = 2 ∧ ¬ c = 8) : passOne M c = M c := by
  have l : ∀ X : Mem, f_P_lookAtSignal_m X c = X c := by
    intro X
    unfold f_P_lookAtSignal_m f_P_lookAtSignal_j3_m f_P_lookAtSignal_j4_m f_P_lookAtSignal_j1_m f_P_lookAtSignal_j2_m; dsimp only
    repeat' split
    all_goals simp only [mst_no hc.1, mst_no hc.2]
  have dd : ∀ X : Mem, f_P_moveDot_m X c = X c := by
    intro X
    unfold f_P_moveDot_m f_P_moveDot_j1_m f_P_moveDot_j2_m; dsimp only
    repeat' split
    all_goals simp only [mst_no hc.1, mst_no hc.2]
  have t : ∀ X : Mem, f_P_moveTimer_m X c = X c := by
    intro X
    unfold f_P_moveTimer_m f_P_moveTimer_j1_m f_P_moveTimer_j2_m; dsimp only
    repeat' split
    all_goals simp only [mst_no hc.1, mst_no hc.2]
  unfold passOne
  rw [l, find_c _ hc.1, dd, t, mst_no hc.1]
def cyS (N : Mem) : Mem := mst N 0 27 (((N 0 27) + (1 : Int32)) &&& (65535 : Int32))
def cyX (N : Mem) : Int32 := if ((N 0 30) &&& (3 : Int32)) = 0 then 256 else if ((N 0 30) &&& (3 : Int32)) = 1 then 4 else if ((N 0 30) &&& (3 : Int32)) = 2 then 16 else 64
theorem cy_eq (N : Mem) : f_R_cycle_m N = f_R_cycle_j3_m (stR (dotR (tmR (cyS N) (cyX (cyS N))))) := by
  unfold f_R_cycle_m cyX; dsimp only
  show (if ((cyS N 0 30) &&& (3 : Int32)) = 0 then f_R_cycle_j1_m (cyS N) (256 : Int32) else (if ((cyS N 0 30) &&& (3 : Int32)) = (1 : Int32) then f_R_cycle_j1_m (cyS N) (4 : Int32) else (if ((cyS N 0 30) &&& (3 : Int32)) = (2 : Int32) then f_R_cycle_j1_m (cyS N) (16 : Int32) else f_R_cycle_j1_m (cyS N) (64 : Int32)))) = _
  simp only [cy_j1, cy_j2]
  repeat' split
  all_goals rfl
theorem cy_j3 (N : Mem) : f_R_cycle_j3_m N = mst (mst (if f_R_isSignal_v N = 0 then N else if N 0 46 = 0 then mst N 0 31 ((N 0 31) ||| (2 : Int32)) else N) 0 46 (f_R_isSignal_v N)) 0 47 ((mst (if f_R_isSignal_v N = 0 then N else if N 0 46 = 0 then mst N 0 31 ((N 0 31) ||| (2 : Int32)) else N) 0 46 (f_R_isSignal_v N)) 0 47 + (1 : Int32)) := by
  unfold f_R_cycle_j3_m f_R_cycle_j4_m; dsimp only
  repeat' split
  all_goals rfl
/-- the places that a cycle leaves -/
def cyK (c j : Nat) : Prop := ¬ c = 0 ∨ (¬ j = 27 ∧ ¬ j = 28 ∧ ¬ j = 31 ∧ ¬ j = 37 ∧ ¬ j = 45 ∧ ¬ j = 46 ∧ ¬ j = 50)
theorem mst_cy {N : Mem} {c j k : Nat} {v : Int32} (h : ¬ c = 0 ∨ ¬ j = k) : mst N 0 k v c j = N c j := by
  rcases h with h | h
  · rw [mst_no h]
  · rw [mst_ne h]
theorem cy_n (N : Mem) {c j : Nat} (h : cyK c j) (h47 : ¬ c = 0 ∨ ¬ j = 47) : f_R_cycle_m N c j = N c j := by
  have a : ∀ k, (k = 27 ∨ k = 28 ∨ k = 31 ∨ k = 37 ∨ k = 45 ∨ k = 46 ∨ k = 50) → ¬ c = 0 ∨ ¬ j = k := by
    intro k hk
    rcases h with h | h
    · exact Or.inl h
    · refine Or.inr ?_; rcases hk with rfl | rfl | rfl | rfl | rfl | rfl | rfl
      · exact h.1
      · exact h.2.1
      · exact h.2.2.1
      · exact h.2.2.2.1
      · exact h.2.2.2.2.1
      · exact h.2.2.2.2.2.1
      · exact h.2.2.2.2.2.2
  have e1 : ∀ X : Mem, f_R_cycle_j3_m X c j = X c j := by
    intro X; rw [cy_j3, mst_cy h47, mst_cy (a 46 (by decide))]; repeat' split
    · rfl
    · exact mst_cy (a 31 (by decide))
    · rfl
  have e2 : ∀ X : Mem, stR X c j = X c j := by
    intro X; unfold stR; split
    · rw [mst_cy (a 37 (by decide)), mst_cy (a 45 (by decide))]
    · rfl
  have e3 : ∀ X : Mem, frR X c j = X c j := by
    intro X; unfold frR; split
    · rw [mst_cy (a 50 (by decide)), mst_cy (a 31 (by decide))]
    · rfl
  have e4 : ∀ X : Mem, dotR X c j = X c j := by
    intro X; unfold dotR; repeat' split
    · rfl
    · rw [e3, mst_cy (a 37 (by decide)), mst_cy (a 45 (by decide)), mst_cy (a 45 (by decide))]
    · rw [e3, mst_cy (a 37 (by decide)), mst_cy (a 45 (by decide)), mst_cy (a 45 (by decide))]
    · rw [mst_cy (a 45 (by decide))]
  have e5 : ∀ (X : Mem) (x : Int32), tmR X x c j = X c j := by
    intro X x; unfold tmR; repeat' split
    · rfl
    · rw [mst_cy (a 31 (by decide)), mst_cy (a 28 (by decide))]
    · rw [mst_cy (a 28 (by decide))]
    · rfl
  rw [cy_eq, e1, e2, e4, e5]; exact mst_cy (a 27 (by decide))
theorem cy_47 (N : Mem) : f_R_cycle_m N 0 47 = N 0 47 + (1 : Int32) := by
  have e2 : ∀ X : Mem, stR X 0 47 = X 0 47 := by
    intro X; unfold stR; split
    · rw [mst_ne (by decide), mst_ne (by decide)]
    · rfl
  have e3 : ∀ X : Mem, frR X 0 47 = X 0 47 := by
    intro X; unfold frR; split
    · rw [mst_ne (by decide), mst_ne (by decide)]
    · rfl
  have e4 : ∀ X : Mem, dotR X 0 47 = X 0 47 := by
    intro X; unfold dotR; repeat' split
    · rfl
    · rw [e3, mst_ne (by decide), mst_ne (by decide), mst_ne (by decide)]
    · rw [e3, mst_ne (by decide), mst_ne (by decide), mst_ne (by decide)]
    · rw [mst_ne (by decide)]
  have e5 : ∀ (X : Mem) (x : Int32), tmR X x 0 47 = X 0 47 := by
    intro X x; unfold tmR; repeat' split
    · rfl
    · rw [mst_ne (by decide), mst_ne (by decide)]
    · rw [mst_ne (by decide)]
    · rfl
  rw [cy_eq, cy_j3, mst_eq, mst_ne (by decide)]
  have e6 : ∀ X : Mem, (if f_R_isSignal_v X = 0 then X else if X 0 46 = 0 then mst X 0 31 ((X 0 31) ||| (2 : Int32)) else X) 0 47 = X 0 47 := by
    intro X; repeat' split
    · rfl
    · rw [mst_ne (by decide)]
    · rfl
  rw [e6, e2, e4, e5]; unfold cyS; rw [mst_ne (by decide)]
theorem cyc {d : Int32} {ρ : Nat → Int32} {M N : Mem} (h : RM M N) (sN : SR d ρ N) (hd : DR N) : RM (passOne M) (f_R_cycle_m N) ∧ DR (f_R_cycle_m N) := by
  obtain ⟨hA, hC, hP⟩ := h
  have h3 : M 2 3 = N 0 27 := hP.g (by decide)
  have p1 : RPb (mst M 2 3 (((M 2 3) + (1 : Int32)) &&& (65535 : Int32))) (cyS N) := by
    unfold cyS; rw [h3]; exact hP.b.up (c := 2) (k := 3) (j := 27) (by decide) _
  have w1 : w16 (cyS N 0 27) := by unfold cyS; rw [mst_eq]; exact and_lt (by decide)
  have hx : (cyS N 0 30 &&& (3 : Int32)) = 0 ∧ cyX (cyS N) = nI (2 ^ 8) ∨ (cyS N 0 30 &&& (3 : Int32)) = 1 ∧ cyX (cyS N) = nI (2 ^ 2) ∨ (cyS N 0 30 &&& (3 : Int32)) = 2 ∧ cyX (cyS N) = nI (2 ^ 4) ∨ (cyS N 0 30 &&& (3 : Int32)) = 3 ∧ cyX (cyS N) = nI (2 ^ 6) := by
    unfold cyX
    rcases kind4 (and_lt (x := cyS N 0 30) (k := 3) (n := 4) (by decide)) with e | e | e | e
    · exact Or.inl ⟨e, by rw [if_pos e]; rfl⟩
    · exact Or.inr (Or.inl ⟨e, by rw [if_neg (by rw [e]; decide), if_pos e]; rfl⟩)
    · exact Or.inr (Or.inr (Or.inl ⟨e, by rw [if_neg (by rw [e]; decide), if_neg (by rw [e]; decide), if_pos e]; rfl⟩))
    · exact Or.inr (Or.inr (Or.inr ⟨e, by rw [if_neg (by rw [e]; decide), if_neg (by rw [e]; decide), if_neg (by rw [e]; decide)]; rfl⟩))
  have p2 := timer p1 w1 hx
  have tm45 : tmR (cyS N) (cyX (cyS N)) 0 45 = N 0 45 := by
    unfold tmR; repeat' split
    all_goals unfold cyS; simp [mst, upd]
  have tm37 : tmR (cyS N) (cyX (cyS N)) 0 37 = N 0 37 := by
    unfold tmR; repeat' split
    all_goals unfold cyS; simp [mst, upd]
  have p3 := dots p2 (by unfold DR; rw [tm45]; exact hd) (by rw [tm37]; exact sN.f 37)
  have p4 := p3.1.find
  have p5 := sig p4 (state4 _)
  have eN : ∀ c j : Nat, cyK c j → (¬ c = 0 ∨ ¬ j = 47) → f_R_cycle_m N c j = N c j := fun c j => cy_n N
  refine ⟨⟨hA.c (fun c hc => po_c _ (by omega)) (fun c h1 _ => funext fun j => eN c j (Or.inl (by omega)) (Or.inl (by omega))), hC.c (po_c _ (by decide)) (fun j h1 h2 => eN 0 j (Or.inr (by omega)) (Or.inr (by omega))), ?_⟩, ?_⟩
  · rw [cy_eq, cy_j3]
    exact p5.n (by decide) (by decide) _
  · unfold DR
    have e : f_R_cycle_m N 0 45 = stR (dotR (tmR (cyS N) (cyX (cyS N)))) 0 45 := by
      rw [cy_eq, cy_j3, mst_ne (by decide), mst_ne (by decide)]; repeat' split
      · rfl
      · rw [mst_ne (by decide)]
      · rfl
    rw [e]; unfold stR; split
    · rw [mst_ne (by decide), mst_eq]; decide
    · exact p3.2
/-- k cycles -/
def passN (k : Nat) (M : Mem) : Mem := Nat.rec (motive := fun _ => Mem → Mem) (fun M => M) (fun _ K M => K (passOne M)) k M
def cycN (k : Nat) (N : Mem) : Mem := Nat.rec (motive := fun _ => Mem → Mem) (fun N => N) (fun _ K N => K (f_R_cycle_m N)) k N
theorem passN_s (k : Nat) (M : Mem) : passN (k + 1) M = passN k (passOne M) := rfl
theorem cycN_s (k : Nat) (N : Mem) : cycN (k + 1) N = cycN k (f_R_cycle_m N) := rfl
theorem pass_eq {t : Int32} : ∀ (n : Nat) (x : Int32) (M : Mem), 0 ≤ x.toInt → x.toInt ≤ t.toInt → t.toInt < x.toInt + n → f_P_pass_l1_m t n x M = passN (t.toInt - x.toInt).toNat M := by
  intro n
  induction n with
  | zero => intro x M h1 h2 h3; exact absurd h3 (by omega)
  | succ n ih =>
    intro x M h1 h2 h3
    rw [f_P_pass_l1_m_s]; dsimp only
    by_cases hc : t ≤ x
    · rw [if_pos hc]
      have : t.toInt - x.toInt = 0 := by rw [ti_le] at hc; omega
      rw [this]; rfl
    · rw [if_neg hc]
      have hx : x.toInt < t.toInt := by rw [ti_le] at hc; omega
      have h9 := any_rng t
      have h7 := a1_ti (a := x) (by omega)
      have e : (t.toInt - x.toInt).toNat = (t.toInt - (x + (1 : Int32)).toInt).toNat + 1 := by omega
      rw [e, passN_s]
      exact ih _ _ (by omega) (by omega) (by omega)
theorem pass_m {t : Int32} (M : Mem) (ht : 0 ≤ t.toInt) : f_P_pass_m M t = passN t.toInt.toNat M := by
  have h0 : (0 : Int32).toInt = 0 := by decide
  have h9 : t.toNatClampNeg = t.toInt.toNat := rfl
  unfold f_P_pass_m
  rw [pass_eq (t.toNatClampNeg + 1) 0 M (by decide) (by omega) (by omega), h0, Int.sub_zero]
theorem cycs {d : Int32} {ρ : Nat → Int32} : ∀ (k : Nat) (M N : Mem), RM M N → SR d ρ N → DR N → RM (passN k M) (cycN k N) ∧ SR d ρ (cycN k N) ∧ DR (cycN k N) ∧ (∀ c j : Nat, cyK c j → (¬ c = 0 ∨ ¬ j = 47) → cycN k N c j = N c j) ∧ cycN k N 0 47 = N 0 47 + nI k ∧ (∀ c : Nat, ¬ c = 2 → ¬ c = 8 → passN k M c = M c) := by
  intro k
  induction k with
  | zero => intro M N h sN hd; exact ⟨h, sN, hd, fun _ _ _ _ => rfl, by show N 0 47 = N 0 47 + nI 0; rw [nI_0, Int32.add_zero], fun _ _ _ => rfl⟩
  | succ k ih =>
    intro M N h sN hd
    have h1 := cyc h sN hd
    obtain ⟨r1, r2, r3, r4, r5, r6⟩ := ih (passOne M) (f_R_cycle_m N) h1.1 (so_R_cycle N sN).2 h1.2
    rw [passN_s, cycN_s]
    refine ⟨r1, r2, r3, fun c j h1 h2 => (r4 c j h1 h2).trans (cy_n N h1 h2), ?_, fun c h1 h2 => (r6 c h1 h2).trans (po_c M ⟨h1, h2⟩)⟩
    rw [r5, cy_47, Int32.add_assoc]
    congr 1
    show (1 : Int32) + nI k = nI (k + 1)
    rw [Int32.add_comm]; exact nI_1 k
