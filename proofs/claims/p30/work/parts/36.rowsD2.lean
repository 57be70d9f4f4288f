theorem ofInt_bv {x : Nat} (hx : x < 2147483648) : (Int32.ofInt (x : Int)).toUInt32.toNat = x := by
  show (Int32.ofInt (x : Int)).toBitVec.toNat = x
  rw [Int32.toBitVec_ofInt, BitVec.toNat_ofInt]
  omega
theorem ushr_of {x : Nat} (hx : x < 2147483648) {y : Nat} (hy : y < 32) : ((Int32.ofInt (x : Int)).toUInt32 >>> ((Int32.ofInt (y : Int)).toUInt32 &&& Int32.toUInt32 31)).toInt32 = Int32.ofInt ((x / 2 ^ y : Nat) : Int) := by
  have h1 := ofInt_bv hx
  have h2 := ofInt_bv (x := y) (by omega)
  have h3 : ((Int32.ofInt (y : Int)).toUInt32 &&& Int32.toUInt32 31).toNat = y := by
    rw [UInt32.toNat_and, h2, show (Int32.toUInt32 31).toNat = 2 ^ 5 - 1 from rfl, Nat.and_two_pow_sub_one_eq_mod]
    omega
  have h4 : ((Int32.ofInt (x : Int)).toUInt32 >>> ((Int32.ofInt (y : Int)).toUInt32 &&& Int32.toUInt32 31)).toNat = x / 2 ^ y := by
    rw [UInt32.toNat_shiftRight, h1, h3, Nat.mod_eq_of_lt hy, Nat.shiftRight_eq_div_pow]
  have h5 : x / 2 ^ y ≤ x := Nat.div_le_self _ _
  have h6 := ofInt_bv (x := x / 2 ^ y) (by omega)
  have h7 : (Int32.ofInt (x : Int)).toUInt32 >>> ((Int32.ofInt (y : Int)).toUInt32 &&& Int32.toUInt32 31) = (Int32.ofInt ((x / 2 ^ y : Nat) : Int)).toUInt32 := UInt32.toNat_inj.mp (h4.trans h6.symm)
  rw [h7]
  rfl
def bc1 (x : Nat) : Nat := x - (x / 2 &&& 1431655765)
def bc2 (x : Nat) : Nat := (x &&& 858993459) + (x / 4 &&& 858993459)
def bc3 (x : Nat) : Nat := x + x / 16 &&& 252645135
def bc4 (x : Nat) : Nat := x + x / 256
def bc5 (x : Nat) : Nat := x + x / 65536
def bcN (x : Nat) : Nat := bc5 (bc4 (bc3 (bc2 (bc1 x)))) &&& 63
def pcN (x : Nat) : Nat → Nat
  | 0 => 0
  | c + 1 => pcN x c + x / 2 ^ c % 2
def bcT (h : Nat) : Bool := (List.range 4096).all (fun k => bcN (4096 * h + k) == pcN (4096 * h + k) 16)
theorem bcT_0 : bcT 0 = true := by decide +kernel
theorem bcT_1 : bcT 1 = true := by decide +kernel
theorem bcT_2 : bcT 2 = true := by decide +kernel
theorem bcT_3 : bcT 3 = true := by decide +kernel
theorem bcT_4 : bcT 4 = true := by decide +kernel
theorem bcT_5 : bcT 5 = true := by decide +kernel
theorem bcT_6 : bcT 6 = true := by decide +kernel
theorem bcT_7 : bcT 7 = true := by decide +kernel
theorem bcT_8 : bcT 8 = true := by decide +kernel
theorem bcT_9 : bcT 9 = true := by decide +kernel
theorem bcT_10 : bcT 10 = true := by decide +kernel
theorem bcT_11 : bcT 11 = true := by decide +kernel
theorem bcT_12 : bcT 12 = true := by decide +kernel
theorem bcT_13 : bcT 13 = true := by decide +kernel
theorem bcT_14 : bcT 14 = true := by decide +kernel
theorem bcT_15 : bcT 15 = true := by decide +kernel
theorem bcN_pc {x : Nat} (hx : x < 65536) : bcN x = pcN x 16 := by
  have hall : bcT (x / 4096) = true := by
    rcases (show x / 4096 = 0 ∨ x / 4096 = 1 ∨ x / 4096 = 2 ∨ x / 4096 = 3 ∨ x / 4096 = 4 ∨ x / 4096 = 5 ∨ x / 4096 = 6 ∨ x / 4096 = 7 ∨ x / 4096 = 8 ∨ x / 4096 = 9 ∨ x / 4096 = 10 ∨ x / 4096 = 11 ∨ x / 4096 = 12 ∨ x / 4096 = 13 ∨ x / 4096 = 14 ∨ x / 4096 = 15 by omega) with e | e | e | e | e | e | e | e | e | e | e | e | e | e | e | e
    all_goals rw [e]
    · exact bcT_0
    · exact bcT_1
    · exact bcT_2
    · exact bcT_3
    · exact bcT_4
    · exact bcT_5
    · exact bcT_6
    · exact bcT_7
    · exact bcT_8
    · exact bcT_9
    · exact bcT_10
    · exact bcT_11
    · exact bcT_12
    · exact bcT_13
    · exact bcT_14
    · exact bcT_15
  unfold bcT at hall
  have h2 := (List.all_eq_true.mp hall) (x % 4096) (List.mem_range.mpr (by omega))
  have h3 : 4096 * (x / 4096) + x % 4096 = x := by omega
  rw [h3] at h2
  exact eq_of_beq h2
theorem bc1_le (x : Nat) : bc1 x ≤ x ∧ (x / 2 &&& 1431655765) ≤ x := by
  have h : (x / 2 &&& 1431655765) ≤ x / 2 := Nat.and_le_left
  unfold bc1
  omega
theorem bc2_le (x : Nat) : bc2 x ≤ 2 * x := by
  have h1 : (x &&& 858993459) ≤ x := Nat.and_le_left
  have h2 : (x / 4 &&& 858993459) ≤ x / 4 := Nat.and_le_left
  unfold bc2
  omega
theorem bc3_le (x : Nat) : bc3 x ≤ 2 * x := by
  have h2 : (x + x / 16 &&& 252645135) ≤ x + x / 16 := Nat.and_le_left
  unfold bc3
  omega
theorem pcN_le (x : Nat) : ∀ c, pcN x c ≤ c := by
  intro c
  induction c with
  | zero => exact Nat.le_refl 0
  | succ c ih =>
    show pcN x c + x / 2 ^ c % 2 ≤ c + 1
    omega
theorem lc_J6_265 : Cond.constant RJ6 265 1431655765 ∈ GW := GW_t (i := 368) (by decide +kernel) rfl
theorem lc_J6_266 : Cond.constant RJ6 266 858993459 ∈ GW := GW_t (i := 369) (by decide +kernel) rfl
theorem lc_J6_267 : Cond.constant RJ6 267 252645135 ∈ GW := GW_t (i := 370) (by decide +kernel) rfl
