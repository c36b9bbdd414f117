/-! Class and reference side by side: the arrays, the cartridge, the ports. -/
def RA (M N : Mem) : Prop := M 6 = N 1 ∧ M 7 = N 2 ∧ M 9 = N 3 ∧ M 11 = N 4 ∧ M 10 = N 5 ∧ M 12 = N 6
/-- the numbers behind the banks, by the sort of cartridge -/
def CN (M N : Mem) : Prop := (N 0 10 = 0 → M 1 8 = 1 ∧ M 1 9 = 0) ∧ (N 0 10 = 1 → M 1 8 = N 0 11 ∧ M 1 9 = N 0 12 ∧ M 1 10 = N 0 13) ∧ (N 0 10 = 2 → (M 1 8 &&& (7 : Int32)) = N 0 16 ∧ M 1 9 = 0) ∧ (N 0 10 = 3 → M 1 8 = N 0 14 ∧ M 1 9 = N 0 15)
def RC (M N : Mem) : Prop := M 1 2 = N 0 8 ∧ M 1 3 = N 0 10 ∧ M 1 4 = f_R_hasRam_v N ∧ M 1 5 = f_R_bankHigh_v N ∧ M 1 6 = f_R_bankRam_v N ∧ M 1 7 = N 0 9 ∧ CN M N ∧ (0 ≤ (N 0 10).toInt ∧ (N 0 10).toInt < 4) ∧ (N 0 8 = 0 → N 0 10 = 0) ∧ isB (N 0 13) ∧ isB (N 0 9) ∧ isB (N 0 8)
/-- (cell, place) of the class, place of the reference -/
def pt : List (Nat × Nat × Nat) := [(8, 0, 26), (8, 5, 28), (8, 6, 29), (8, 7, 30), (8, 15, 31), (8, 255, 32), (8, 64, 33), (8, 65, 34), (8, 66, 35), (8, 67, 36), (8, 69, 38), (8, 70, 39), (8, 71, 40), (8, 72, 41), (8, 73, 42), (8, 74, 43), (8, 75, 44), (2, 1, 50), (2, 2, 25), (2, 3, 27), (2, 4, 45), (2, 5, 37), (2, 7, 46)]
def RP (M N : Mem) : Prop := (∀ q ∈ pt, M q.1 q.2.1 = N 0 q.2.2) ∧ M 2 6 = f_R_state_v N
def RM (M N : Mem) : Prop := RA M N ∧ RC M N ∧ RP M N
theorem RP.g {M N : Mem} (h : RP M N) {c k j : Nat} (hq : (c, k, j) ∈ pt) : M c k = N 0 j := h.1 (c, k, j) hq
theorem port_ti {a : Int32} (h : 65280 ≤ a.toInt ∧ a.toInt < 65536) : (a &&& (255 : Int32)).toInt = a.toInt - 65280 := by
  obtain ⟨j, hj, rfl⟩ := of_nI (n := 65536) ⟨by omega, h.2⟩ (by decide)
  rw [nI_toInt (by omega)] at h ⊢
  have e : nI j &&& (255 : Int32) = nI (j &&& 255) := by
    apply Int32.toBitVec_inj.mp
    apply BitVec.eq_of_toNat_eq
    rw [Int32.toBitVec_and, BitVec.toNat_and]
    show (BitVec.ofNat 32 j).toNat &&& (BitVec.ofNat 32 255).toNat = (BitVec.ofNat 32 (j &&& 255)).toNat
    have h3 : j &&& 255 ≤ 255 := Nat.and_le_right
    rw [BitVec.toNat_ofNat, BitVec.toNat_ofNat, BitVec.toNat_ofNat, Nat.mod_eq_of_lt (by omega), Nat.mod_eq_of_lt (by decide), Nat.mod_eq_of_lt (by omega)]
  have e2 : j &&& 255 = j % 256 := by rw [show (255 : Nat) = 2 ^ 8 - 1 from rfl, Nat.and_two_pow_sub_one_eq_mod]
  rw [e, e2, nI_toInt (by omega)]
  omega
theorem video_ti {a : Int32} (h : 32768 ≤ a.toInt ∧ a.toInt < 40960) : (a &&& (8191 : Int32)) = a - (32768 : Int32) := by
  obtain ⟨j, hj, rfl⟩ := of_nI (x := a) (n := 65536) ⟨by omega, by omega⟩ (by decide)
  rw [nI_toInt (by omega)] at h
  have e : nI j &&& (8191 : Int32) = nI (j &&& 8191) := by
    apply Int32.toBitVec_inj.mp
    apply BitVec.eq_of_toNat_eq
    rw [Int32.toBitVec_and, BitVec.toNat_and]
    show (BitVec.ofNat 32 j).toNat &&& (BitVec.ofNat 32 8191).toNat = (BitVec.ofNat 32 (j &&& 8191)).toNat
    have h3 : j &&& 8191 ≤ 8191 := Nat.and_le_right
    rw [BitVec.toNat_ofNat, BitVec.toNat_ofNat, BitVec.toNat_ofNat, Nat.mod_eq_of_lt (by omega), Nat.mod_eq_of_lt (by decide), Nat.mod_eq_of_lt (by omega)]
  have e2 : j &&& 8191 = j % 8192 := by rw [show (8191 : Nat) = 2 ^ 13 - 1 from rfl, Nat.and_two_pow_sub_one_eq_mod]
  rw [e, e2]
  apply ti_inj
  have h8 : (32768 : Int32).toInt = 32768 := by decide
  rw [ti_sub (by rw [nI_toInt (by omega)]; omega) (by rw [nI_toInt (by omega)]; omega), nI_toInt (by omega), nI_toInt (by omega)]
  omega
theorem top_ti {a : Int32} (h : 65408 ≤ a.toInt ∧ a.toInt < 65535) : (a &&& (127 : Int32)) = a - (65408 : Int32) := by
  obtain ⟨j, hj, rfl⟩ := of_nI (x := a) (n := 65536) ⟨by omega, by omega⟩ (by decide)
  rw [nI_toInt (by omega)] at h
  have e : nI j &&& (127 : Int32) = nI (j &&& 127) := by
    apply Int32.toBitVec_inj.mp
    apply BitVec.eq_of_toNat_eq
    rw [Int32.toBitVec_and, BitVec.toNat_and]
    show (BitVec.ofNat 32 j).toNat &&& (BitVec.ofNat 32 127).toNat = (BitVec.ofNat 32 (j &&& 127)).toNat
    have h3 : j &&& 127 ≤ 127 := Nat.and_le_right
    rw [BitVec.toNat_ofNat, BitVec.toNat_ofNat, BitVec.toNat_ofNat, Nat.mod_eq_of_lt (by omega), Nat.mod_eq_of_lt (by decide), Nat.mod_eq_of_lt (by omega)]
  have e2 : j &&& 127 = j % 128 := by rw [show (127 : Nat) = 2 ^ 7 - 1 from rfl, Nat.and_two_pow_sub_one_eq_mod]
  rw [e, e2]
  apply ti_inj
  have h8 : (65408 : Int32).toInt = 65408 := by decide
  rw [ti_sub (by rw [nI_toInt (by omega)]; omega) (by rw [nI_toInt (by omega)]; omega), nI_toInt (by omega), nI_toInt (by omega)]
  omega
