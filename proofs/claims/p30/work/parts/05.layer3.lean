-- bits
theorem sh_cnt : ∀ y, y < 32 → ((Int32.ofInt ((y : Nat) : Int) &&& 31).toBitVec.smod 32).toNat = y := by decide +kernel
theorem bv_of (x : Int) : (Int32.ofInt x).toBitVec = BitVec.ofInt 32 x := rfl
theorem shl_of (x : Int) {y : Nat} (hy : y < 32) : Int32.ofInt x <<< (Int32.ofInt (y : Int) &&& 31) = Int32.ofInt (x * 2 ^ y) := by
  rw [← Int32.toBitVec_inj, Int32.toBitVec_shiftLeft, BitVec.shiftLeft_eq', sh_cnt y hy, bv_of, bv_of, BitVec.ofInt_mul, BitVec.shiftLeft_eq_mul_twoPow]
  congr 1
  apply BitVec.eq_of_toNat_eq
  rw [BitVec.toNat_twoPow, BitVec.toNat_ofInt]
  rw [show ((2 : Int) ^ y) = ((2 ^ y : Nat) : Int) by push_cast; rfl]
  exact (Int.toNat_natCast _).symm
theorem shr_of {x : Int} (hx : i32 x) {y : Nat} (hy : y < 32) : Int32.ofInt x >>> (Int32.ofInt (y : Int) &&& 31) = Int32.ofInt (x / 2 ^ y) := by
  have h1 : (Int32.ofInt x >>> (Int32.ofInt (y : Int) &&& 31)).toInt = x / 2 ^ y := by
    rw [← Int32.toInt_toBitVec, Int32.toBitVec_shiftRight, BitVec.sshiftRight_eq', sh_cnt y hy, BitVec.toInt_sshiftRight, Int32.toInt_toBitVec, i32_to hx, Int.shiftRight_eq_div_pow]
    rfl
  rw [← Int32.toInt_inj, h1, i32_to]
  have hp : (0 : Int) < 2 ^ y := Int.pow_pos (by decide)
  rcases Int.lt_or_le x 0 with h | h
  · have h2 : x / 2 ^ y < 0 := Int.ediv_neg_of_neg_of_pos h hp
    have h3 : x ≤ x / 2 ^ y := by
      rw [Int.le_ediv_iff_mul_le hp]
      have h4 : (1 : Int) ≤ 2 ^ y := hp
      calc x * 2 ^ y ≤ x * 1 := Int.mul_le_mul_of_nonpos_left (by omega) h4
        _ = x := Int.mul_one x
    exact ⟨by omega, by omega⟩
  · have h2 : 0 ≤ x / 2 ^ y := Int.ediv_nonneg h (by omega)
    have h3 : x / 2 ^ y ≤ x := Int.ediv_le_self _ h
    exact ⟨by omega, by omega⟩
theorem bvn_of {x : Int} (h : 0 ≤ x ∧ x < 2147483648) : (BitVec.ofInt 32 x).toNat = x.toNat := by
  rw [BitVec.toNat_ofInt]
  omega
theorem and_of {x y : Int} (hx : 0 ≤ x ∧ x < 2147483648) (hy : 0 ≤ y ∧ y < 2147483648) : Int32.ofInt x &&& Int32.ofInt y = Int32.ofInt ((x.toNat &&& y.toNat : Nat) : Int) := by
  rw [← Int32.toBitVec_inj, Int32.toBitVec_and, bv_of, bv_of, bv_of]
  apply BitVec.eq_of_toNat_eq
  have h1 : x.toNat &&& y.toNat ≤ x.toNat := Nat.and_le_left
  rw [BitVec.toNat_and, bvn_of hx, bvn_of hy, bvn_of ⟨by omega, by omega⟩]
  omega
theorem or_of {x y : Int} (hx : 0 ≤ x ∧ x < 2147483648) (hy : 0 ≤ y ∧ y < 2147483648) : Int32.ofInt x ||| Int32.ofInt y = Int32.ofInt ((x.toNat ||| y.toNat : Nat) : Int) := by
  rw [← Int32.toBitVec_inj, Int32.toBitVec_or, bv_of, bv_of, bv_of]
  apply BitVec.eq_of_toNat_eq
  have h1 : x.toNat ||| y.toNat < 2 ^ 31 := Nat.or_lt_two_pow (by omega) (by omega)
  rw [BitVec.toNat_or, bvn_of hx, bvn_of hy, bvn_of ⟨by omega, by omega⟩]
  omega
theorem mask_of (x : Int) {j : Nat} (hj : j ≤ 31) : Int32.ofInt x &&& Int32.ofInt (2 ^ j - 1) = Int32.ofInt (x % 2 ^ j) := by
  have hp : (1 : Int) ≤ 2 ^ j := Int.pow_pos (by decide)
  have hq : (2 : Int) ^ j ≤ 2 ^ 31 := by
    rw [show ((2 : Int) ^ j) = ((2 ^ j : Nat) : Int) by push_cast; rfl, show ((2 : Int) ^ 31) = ((2 ^ 31 : Nat) : Int) by rfl]
    exact Int.ofNat_le.mpr (Nat.pow_le_pow_right (by decide) hj)
  have h0 : 0 ≤ x % 2 ^ j := Int.emod_nonneg _ (by omega)
  have h1 : x % 2 ^ j < 2 ^ j := Int.emod_lt_of_pos _ (by omega)
  rw [← Int32.toBitVec_inj, Int32.toBitVec_and, bv_of, bv_of, bv_of]
  apply BitVec.eq_of_toNat_eq
  rw [BitVec.toNat_and, bvn_of (x := 2 ^ j - 1) ⟨by omega, by omega⟩, bvn_of (x := x % 2 ^ j) ⟨by omega, by omega⟩]
  have h2 : ((2 : Int) ^ j - 1).toNat = 2 ^ j - 1 := by
    rw [show ((2 : Int) ^ j) = ((2 ^ j : Nat) : Int) by push_cast; rfl]
    omega
  rw [h2, Nat.and_two_pow_sub_one_eq_mod, BitVec.toNat_ofInt]
  apply Int.ofNat_inj.mp
  rw [Int.natCast_emod, Int.toNat_of_nonneg (Int.emod_nonneg _ (by decide)), Int.toNat_of_nonneg h0]
  rw [show ((2 ^ j : Nat) : Int) = (2 : Int) ^ j by push_cast; rfl]
  apply Int.emod_emod_of_dvd
  rw [show ((2 ^ 32 : Nat) : Int) = (2 : Int) ^ j * 2 ^ (32 - j) by rw [← Int.pow_add, show j + (32 - j) = 32 by omega]; rfl]
  exact Int.dvd_mul_right _ _
section ROWS3
variable {κ : KX} {Y : MD} {d mc ms N : Nat} {T : Ty} {pc : Nat} {L : List (Option MV)} {st : List MV} {v : Ct} {k n : Nat} {Q : State → Prop}
theorem M_iconst (C : CX κ Y d mc ms) {z : Int} (hd : decode Y.2.1 pc = .ok (.iconst z, 1)) (kk : M κ N T (pc + 1) L (vI z :: st) v k n Q) : M κ N T pc L (st) v k n Q := by
  obtain ⟨p, l, e, R, s, m, args, below, meth, c, b, δ⟩ := κ
  obtain ⟨hx, hb, hown, hts, hKK, hEX, hlocks, hnm, hret, hml, -⟩ := C
  intro H locs ls hR hS hL
  exact lv_iconst hx hb hd rfl (kk H locs ls hR hS hL)
theorem M_bipush (C : CX κ Y d mc ms) {z : Int} (hz : (Int8.ofInt z).toInt32 = Int32.ofInt z) (hd : decode Y.2.1 pc = .ok (.bipush z, 2)) (kk : M κ N T (pc + 2) L (vI z :: st) v k n Q) : M κ N T pc L (st) v k n Q := by
  obtain ⟨p, l, e, R, s, m, args, below, meth, c, b, δ⟩ := κ
  obtain ⟨hx, hb, hown, hts, hKK, hEX, hlocks, hnm, hret, hml, -⟩ := C
  intro H locs ls hR hS hL
  exact lv_bipush hx hb hd hz (kk H locs ls hR hS hL)
theorem M_sipush (C : CX κ Y d mc ms) {z : Int} (hz : (Int16.ofInt z).toInt32 = Int32.ofInt z) (hd : decode Y.2.1 pc = .ok (.sipush z, 3)) (kk : M κ N T (pc + 3) L (vI z :: st) v k n Q) : M κ N T pc L (st) v k n Q := by
  obtain ⟨p, l, e, R, s, m, args, below, meth, c, b, δ⟩ := κ
  obtain ⟨hx, hb, hown, hts, hKK, hEX, hlocks, hnm, hret, hml, -⟩ := C
  intro H locs ls hR hS hL
  exact lv_sipush hx hb hd hz (kk H locs ls hR hS hL)
theorem M_ldcw (C : CX κ Y d mc ms) {i : Nat} {w : Int32} {z : Int} (hw : Cond.constant Y.1.cls i w ∈ GW) (hz : w = Int32.ofInt z) (hd : decode Y.2.1 pc = .ok (.ldc_w i, 3)) (kk : M κ N T (pc + 3) L (vI z :: st) v k n Q) : M κ N T pc L (st) v k n Q := by
  obtain ⟨p, l, e, R, s, m, args, below, meth, c, b, δ⟩ := κ
  obtain ⟨hx, hb, hown, hts, hKK, hEX, hlocks, hnm, hret, hml, -⟩ := C
  intro H locs ls hR hS hL
  subst hz
  exact lv_ldcw hx hb hown (hts _ hw) hd (kk H locs ls hR hS hL)
theorem M_ldc2 (C : CX κ Y d mc ms) {i : Nat} {w : Int64} {z : Int} (hw : Cond.constantLong Y.1.cls i w ∈ GW) (hz : w = Int64.ofInt z) (hd : decode Y.2.1 pc = .ok (.ldc2_w i, 3)) (kk : M κ N T (pc + 3) L (vJ z :: st) v k n Q) : M κ N T pc L (st) v k n Q := by
  obtain ⟨p, l, e, R, s, m, args, below, meth, c, b, δ⟩ := κ
  obtain ⟨hx, hb, hown, hts, hKK, hEX, hlocks, hnm, hret, hml, -⟩ := C
  intro H locs ls hR hS hL
  subst hz
  exact lv_ldc2 hx hb hown (hts _ hw) hd (kk H locs ls hR hS hL)
theorem M_ldc2d (C : CX κ Y d mc ms) {i : Nat} {w : UInt64} (hw : Cond.constantDouble Y.1.cls i w ∈ GW) (hd : decode Y.2.1 pc = .ok (.ldc2_w i, 3)) (kk : M κ N T (pc + 3) L (vD w :: st) v k n Q) : M κ N T pc L (st) v k n Q := by
  obtain ⟨p, l, e, R, s, m, args, below, meth, c, b, δ⟩ := κ
  obtain ⟨hx, hb, hown, hts, hKK, hEX, hlocks, hnm, hret, hml, -⟩ := C
  intro H locs ls hR hS hL
  exact lv_ldc2d hx hb hown (hts _ hw) hd (kk H locs ls hR hS hL)
theorem M_lconst (C : CX κ Y d mc ms) {z : Fin 2} {x : Int} (hz : Int64.ofNat (z : Nat) = Int64.ofInt x) (hd : decode Y.2.1 pc = .ok (.lconst z, 1)) (kk : M κ N T (pc + 1) L (vJ x :: st) v k n Q) : M κ N T pc L (st) v k n Q := by
  obtain ⟨p, l, e, R, s, m, args, below, meth, c, b, δ⟩ := κ
  obtain ⟨hx, hb, hown, hts, hKK, hEX, hlocks, hnm, hret, hml, -⟩ := C
  intro H locs ls hR hS hL
  exact lv_lconst hx hb hd hz (kk H locs ls hR hS hL)
theorem M_dconst0 (C : CX κ Y d mc ms)  (hd : decode Y.2.1 pc = .ok (.dconst 0, 1)) (kk : M κ N T (pc + 1) L (vD FP.dconst0 :: st) v k n Q) : M κ N T pc L (st) v k n Q := by
  obtain ⟨p, l, e, R, s, m, args, below, meth, c, b, δ⟩ := κ
  obtain ⟨hx, hb, hown, hts, hKK, hEX, hlocks, hnm, hret, hml, -⟩ := C
  intro H locs ls hR hS hL
  exact lv_dconst0 hx hb hd (kk H locs ls hR hS hL)
theorem M_dconst1 (C : CX κ Y d mc ms)  (hd : decode Y.2.1 pc = .ok (.dconst 1, 1)) (kk : M κ N T (pc + 1) L (vD FP.dconst1 :: st) v k n Q) : M κ N T pc L (st) v k n Q := by
  obtain ⟨p, l, e, R, s, m, args, below, meth, c, b, δ⟩ := κ
  obtain ⟨hx, hb, hown, hts, hKK, hEX, hlocks, hnm, hret, hml, -⟩ := C
  intro H locs ls hR hS hL
  exact lv_dconst1 hx hb hd (kk H locs ls hR hS hL)
theorem M_iadd (C : CX κ Y d mc ms) {x y : Int} (hd : decode Y.2.1 pc = .ok (.iadd, 1)) (kk : M κ N T (pc + 1) L (vI (x + y) :: st) v k n Q) : M κ N T pc L (vI y :: vI x :: st) v k n Q := by
  obtain ⟨p, l, e, R, s, m, args, below, meth, c, b, δ⟩ := κ
  obtain ⟨hx, hb, hown, hts, hKK, hEX, hlocks, hnm, hret, hml, -⟩ := C
  intro H locs ls hR hS hL
  have h2 := (kk H locs ls hR hS hL)
  simp only [List.map_cons, tv, ← ofInt_add] at h2
  exact lv_iadd hx hb hd h2
theorem M_isub (C : CX κ Y d mc ms) {x y : Int} (hd : decode Y.2.1 pc = .ok (.isub, 1)) (kk : M κ N T (pc + 1) L (vI (x - y) :: st) v k n Q) : M κ N T pc L (vI y :: vI x :: st) v k n Q := by
  obtain ⟨p, l, e, R, s, m, args, below, meth, c, b, δ⟩ := κ
  obtain ⟨hx, hb, hown, hts, hKK, hEX, hlocks, hnm, hret, hml, -⟩ := C
  intro H locs ls hR hS hL
  have h2 := (kk H locs ls hR hS hL)
  simp only [List.map_cons, tv, ← ofInt_sub] at h2
  exact lv_isub hx hb hd h2
theorem M_imul (C : CX κ Y d mc ms) {x y : Int} (hd : decode Y.2.1 pc = .ok (.imul, 1)) (kk : M κ N T (pc + 1) L (vI (x * y) :: st) v k n Q) : M κ N T pc L (vI y :: vI x :: st) v k n Q := by
  obtain ⟨p, l, e, R, s, m, args, below, meth, c, b, δ⟩ := κ
  obtain ⟨hx, hb, hown, hts, hKK, hEX, hlocks, hnm, hret, hml, -⟩ := C
  intro H locs ls hR hS hL
  have h2 := (kk H locs ls hR hS hL)
  simp only [List.map_cons, tv, ← ofInt_mul] at h2
  exact lv_imul hx hb hd h2
theorem M_idiv (C : CX κ Y d mc ms) {x y : Int} (h1 : 0 ≤ x ∧ x < 2147483648) (h2 : 0 < y ∧ y < 2147483648) (hd : decode Y.2.1 pc = .ok (.idiv, 1)) (kk : M κ N T (pc + 1) L (vI (x / y) :: st) v k n Q) : M κ N T pc L (vI y :: vI x :: st) v k n Q := by
  obtain ⟨p, l, e, R, s, m, args, below, meth, c, b, δ⟩ := κ
  obtain ⟨hx, hb, hown, hts, hKK, hEX, hlocks, hnm, hret, hml, -⟩ := C
  intro H locs ls hR hS hL
  have h3 := (kk H locs ls hR hS hL)
  simp only [List.map_cons, tv, ← ofInt_div h1 h2] at h3
  refine lv_idiv hx hb hd (fun e => ?_) h3
  rw [show (0 : Int32) = Int32.ofInt 0 from rfl, ofInt_inj ⟨by omega, by omega⟩ ⟨by omega, by omega⟩] at e
  omega
theorem M_irem (C : CX κ Y d mc ms) {x y : Int} (h1 : 0 ≤ x ∧ x < 2147483648) (h2 : 0 < y ∧ y < 2147483648) (hd : decode Y.2.1 pc = .ok (.irem, 1)) (kk : M κ N T (pc + 1) L (vI (x % y) :: st) v k n Q) : M κ N T pc L (vI y :: vI x :: st) v k n Q := by
  obtain ⟨p, l, e, R, s, m, args, below, meth, c, b, δ⟩ := κ
  obtain ⟨hx, hb, hown, hts, hKK, hEX, hlocks, hnm, hret, hml, -⟩ := C
  intro H locs ls hR hS hL
  have h3 := (kk H locs ls hR hS hL)
  simp only [List.map_cons, tv, ← ofInt_rem h1 h2] at h3
  refine lv_irem hx hb hd (fun e => ?_) h3
  rw [show (0 : Int32) = Int32.ofInt 0 from rfl, ofInt_inj ⟨by omega, by omega⟩ ⟨by omega, by omega⟩] at e
  omega
theorem M_ishl (C : CX κ Y d mc ms) {x y : Int} (h1 : 0 ≤ y ∧ y < 32) (hd : decode Y.2.1 pc = .ok (.ishl, 1)) (kk : M κ N T (pc + 1) L (vI (x * 2 ^ y.toNat) :: st) v k n Q) : M κ N T pc L (vI y :: vI x :: st) v k n Q := by
  obtain ⟨p, l, e, R, s, m, args, below, meth, c, b, δ⟩ := κ
  obtain ⟨hx, hb, hown, hts, hKK, hEX, hlocks, hnm, hret, hml, -⟩ := C
  intro H locs ls hR hS hL
  have h3 := (kk H locs ls hR hS hL)
  have h4 := shl_of x (y := y.toNat) (by omega)
  rw [Int.toNat_of_nonneg h1.1] at h4
  simp only [List.map_cons, tv, ← h4] at h3
  exact lv_ishl hx hb hd h3
theorem M_ishr (C : CX κ Y d mc ms) {x y : Int} (h0 : i32 x) (h1 : 0 ≤ y ∧ y < 32) (hd : decode Y.2.1 pc = .ok (.ishr, 1)) (kk : M κ N T (pc + 1) L (vI (x / 2 ^ y.toNat) :: st) v k n Q) : M κ N T pc L (vI y :: vI x :: st) v k n Q := by
  obtain ⟨p, l, e, R, s, m, args, below, meth, c, b, δ⟩ := κ
  obtain ⟨hx, hb, hown, hts, hKK, hEX, hlocks, hnm, hret, hml, -⟩ := C
  intro H locs ls hR hS hL
  have h3 := (kk H locs ls hR hS hL)
  have h4 := shr_of h0 (y := y.toNat) (by omega)
  rw [Int.toNat_of_nonneg h1.1] at h4
  simp only [List.map_cons, tv, ← h4] at h3
  exact lv_ishr hx hb hd h3
theorem M_iand (C : CX κ Y d mc ms) {x y : Int} (h1 : 0 ≤ x ∧ x < 2147483648) (h2 : 0 ≤ y ∧ y < 2147483648) (hd : decode Y.2.1 pc = .ok (.iand, 1)) (kk : M κ N T (pc + 1) L (vI ((x.toNat &&& y.toNat : Nat) : Int) :: st) v k n Q) : M κ N T pc L (vI y :: vI x :: st) v k n Q := by
  obtain ⟨p, l, e, R, s, m, args, below, meth, c, b, δ⟩ := κ
  obtain ⟨hx, hb, hown, hts, hKK, hEX, hlocks, hnm, hret, hml, -⟩ := C
  intro H locs ls hR hS hL
  have h3 := (kk H locs ls hR hS hL)
  simp only [List.map_cons, tv, ← and_of h1 h2] at h3
  exact lv_iand hx hb hd h3
theorem M_imask (C : CX κ Y d mc ms) {x y : Int} (j : Nat) (hj : j ≤ 31) (hy : y = 2 ^ j - 1) (hd : decode Y.2.1 pc = .ok (.iand, 1)) (kk : M κ N T (pc + 1) L (vI (x % 2 ^ j) :: st) v k n Q) : M κ N T pc L (vI y :: vI x :: st) v k n Q := by
  obtain ⟨p, l, e, R, s, m, args, below, meth, c, b, δ⟩ := κ
  obtain ⟨hx, hb, hown, hts, hKK, hEX, hlocks, hnm, hret, hml, -⟩ := C
  intro H locs ls hR hS hL
  have h3 := (kk H locs ls hR hS hL)
  subst hy
  simp only [List.map_cons, tv, ← mask_of x hj] at h3
  exact lv_iand hx hb hd h3
theorem M_ior (C : CX κ Y d mc ms) {x y : Int} (h1 : 0 ≤ x ∧ x < 2147483648) (h2 : 0 ≤ y ∧ y < 2147483648) (hd : decode Y.2.1 pc = .ok (.ior, 1)) (kk : M κ N T (pc + 1) L (vI ((x.toNat ||| y.toNat : Nat) : Int) :: st) v k n Q) : M κ N T pc L (vI y :: vI x :: st) v k n Q := by
  obtain ⟨p, l, e, R, s, m, args, below, meth, c, b, δ⟩ := κ
  obtain ⟨hx, hb, hown, hts, hKK, hEX, hlocks, hnm, hret, hml, -⟩ := C
  intro H locs ls hR hS hL
  have h3 := (kk H locs ls hR hS hL)
  simp only [List.map_cons, tv, ← or_of h1 h2] at h3
  exact lv_ior hx hb hd h3
theorem M_ladd (C : CX κ Y d mc ms) {x y : Int} (hd : decode Y.2.1 pc = .ok (.ladd, 1)) (kk : M κ N T (pc + 1) L (vJ (x + y) :: st) v k n Q) : M κ N T pc L (vJ y :: vJ x :: st) v k n Q := by
  obtain ⟨p, l, e, R, s, m, args, below, meth, c, b, δ⟩ := κ
  obtain ⟨hx, hb, hown, hts, hKK, hEX, hlocks, hnm, hret, hml, -⟩ := C
  intro H locs ls hR hS hL
  have h2 := (kk H locs ls hR hS hL)
  simp only [List.map_cons, tv, ← lofInt_add] at h2
  exact lv_ladd hx hb hd h2
theorem M_lmul (C : CX κ Y d mc ms) {x y : Int} (hd : decode Y.2.1 pc = .ok (.lmul, 1)) (kk : M κ N T (pc + 1) L (vJ (x * y) :: st) v k n Q) : M κ N T pc L (vJ y :: vJ x :: st) v k n Q := by
  obtain ⟨p, l, e, R, s, m, args, below, meth, c, b, δ⟩ := κ
  obtain ⟨hx, hb, hown, hts, hKK, hEX, hlocks, hnm, hret, hml, -⟩ := C
  intro H locs ls hR hS hL
  have h2 := (kk H locs ls hR hS hL)
  simp only [List.map_cons, tv, ← lofInt_mul] at h2
  exact lv_lmul hx hb hd h2
theorem M_i2l (C : CX κ Y d mc ms) {x : Int} (h1 : i32 x) (hd : decode Y.2.1 pc = .ok (.i2l, 1)) (kk : M κ N T (pc + 1) L (vJ x :: st) v k n Q) : M κ N T pc L (vI x :: st) v k n Q := by
  obtain ⟨p, l, e, R, s, m, args, below, meth, c, b, δ⟩ := κ
  obtain ⟨hx, hb, hown, hts, hKK, hEX, hlocks, hnm, hret, hml, -⟩ := C
  intro H locs ls hR hS hL
  exact lv_i2l hx hb hd (i2l_of h1) (kk H locs ls hR hS hL)
theorem M_i2d (C : CX κ Y d mc ms) {x : Int} (hd : decode Y.2.1 pc = .ok (.i2d, 1)) (kk : M κ N T (pc + 1) L (vD (FP.i2d (Int32.ofInt x)) :: st) v k n Q) : M κ N T pc L (vI x :: st) v k n Q := by
  obtain ⟨p, l, e, R, s, m, args, below, meth, c, b, δ⟩ := κ
  obtain ⟨hx, hb, hown, hts, hKK, hEX, hlocks, hnm, hret, hml, -⟩ := C
  intro H locs ls hR hS hL
  exact lv_i2d hx hb hd (kk H locs ls hR hS hL)
theorem M_d2l (C : CX κ Y d mc ms) {x : UInt64} {z : Int} (hz : FP.d2l x = Int64.ofInt z) (hd : decode Y.2.1 pc = .ok (.d2l, 1)) (kk : M κ N T (pc + 1) L (vJ z :: st) v k n Q) : M κ N T pc L (vD x :: st) v k n Q := by
  obtain ⟨p, l, e, R, s, m, args, below, meth, c, b, δ⟩ := κ
  obtain ⟨hx, hb, hown, hts, hKK, hEX, hlocks, hnm, hret, hml, -⟩ := C
  intro H locs ls hR hS hL
  have h2 := (kk H locs ls hR hS hL)
  simp only [List.map_cons, tv, ← hz] at h2
  exact lv_d2l hx hb hd h2
theorem M_ddiv (C : CX κ Y d mc ms) {x y z : UInt64} (hz : FP.ddiv x y = z) (hn : vf_n64 z) (hd : decode Y.2.1 pc = .ok (.ddiv, 1)) (kk : M κ N T (pc + 1) L (vD z :: st) v k n Q) : M κ N T pc L (vD y :: vD x :: st) v k n Q := by
  obtain ⟨p, l, e, R, s, m, args, below, meth, c, b, δ⟩ := κ
  obtain ⟨hx, hb, hown, hts, hKK, hEX, hlocks, hnm, hret, hml, -⟩ := C
  intro H locs ls hR hS hL
  subst hz
  exact lv_ddiv hx hb hd hn (kk H locs ls hR hS hL)
theorem M_dmul (C : CX κ Y d mc ms) {x y z : UInt64} (hz : FP.dmul x y = z) (hn : vf_n64 z) (hd : decode Y.2.1 pc = .ok (.dmul, 1)) (kk : M κ N T (pc + 1) L (vD z :: st) v k n Q) : M κ N T pc L (vD y :: vD x :: st) v k n Q := by
  obtain ⟨p, l, e, R, s, m, args, below, meth, c, b, δ⟩ := κ
  obtain ⟨hx, hb, hown, hts, hKK, hEX, hlocks, hnm, hret, hml, -⟩ := C
  intro H locs ls hR hS hL
  subst hz
  exact lv_dmul hx hb hd hn (kk H locs ls hR hS hL)
theorem M_dsub (C : CX κ Y d mc ms) {x y z : UInt64} (hz : FP.dsub x y = z) (hn : vf_n64 z) (hd : decode Y.2.1 pc = .ok (.dsub, 1)) (kk : M κ N T (pc + 1) L (vD z :: st) v k n Q) : M κ N T pc L (vD y :: vD x :: st) v k n Q := by
  obtain ⟨p, l, e, R, s, m, args, below, meth, c, b, δ⟩ := κ
  obtain ⟨hx, hb, hown, hts, hKK, hEX, hlocks, hnm, hret, hml, -⟩ := C
  intro H locs ls hR hS hL
  subst hz
  exact lv_dsub hx hb hd hn (kk H locs ls hR hS hL)
theorem M_dcmp (C : CX κ Y d mc ms) {x y : UInt64} {op : CmpOp} {z : Int} (hz : Op.cmpValue (FP.dcmp x y) op = Int32.ofInt z) (hd : decode Y.2.1 pc = .ok (.dcmp op, 1)) (kk : M κ N T (pc + 1) L (vI z :: st) v k n Q) : M κ N T pc L (vD y :: vD x :: st) v k n Q := by
  obtain ⟨p, l, e, R, s, m, args, below, meth, c, b, δ⟩ := κ
  obtain ⟨hx, hb, hown, hts, hKK, hEX, hlocks, hnm, hret, hml, -⟩ := C
  intro H locs ls hR hS hL
  have h2 := (kk H locs ls hR hS hL)
  simp only [List.map_cons, tv, ← hz] at h2
  exact lv_dcmp hx hb hd h2
theorem M_lshl (C : CX κ Y d mc ms) {x y z : Int} (hz : Int64.ofInt x <<< ((Int32.ofInt y).toInt64 &&& 63) = Int64.ofInt z) (hd : decode Y.2.1 pc = .ok (.lshl, 1)) (kk : M κ N T (pc + 1) L (vJ z :: st) v k n Q) : M κ N T pc L (vI y :: vJ x :: st) v k n Q := by
  obtain ⟨p, l, e, R, s, m, args, below, meth, c, b, δ⟩ := κ
  obtain ⟨hx, hb, hown, hts, hKK, hEX, hlocks, hnm, hret, hml, -⟩ := C
  intro H locs ls hR hS hL
  exact lv_lshl hx hb hd hz (kk H locs ls hR hS hL)
theorem M_lcmpv (C : CX κ Y d mc ms) {x y z : Int} (hz : lg_cmp (Int64.ofInt x) (Int64.ofInt y) = Int32.ofInt z) (hd : decode Y.2.1 pc = .ok (.lcmp, 1)) (kk : M κ N T (pc + 1) L (vI z :: st) v k n Q) : M κ N T pc L (vJ y :: vJ x :: st) v k n Q := by
  obtain ⟨p, l, e, R, s, m, args, below, meth, c, b, δ⟩ := κ
  obtain ⟨hx, hb, hown, hts, hKK, hEX, hlocks, hnm, hret, hml, -⟩ := C
  intro H locs ls hR hS hL
  have h2 := (kk H locs ls hR hS hL)
  simp only [List.map_cons, tv, ← hz] at h2
  exact W.lcmp hx hb hd h2
theorem M_dup (C : CX κ Y d mc ms) {x : MV} (hc : mc2 x = false) (hd : decode Y.2.1 pc = .ok (.dup, 1)) (kk : M κ N T (pc + 1) L (x :: x :: st) v k n Q) : M κ N T pc L (x :: st) v k n Q := by
  obtain ⟨p, l, e, R, s, m, args, below, meth, c, b, δ⟩ := κ
  obtain ⟨hx, hb, hown, hts, hKK, hEX, hlocks, hnm, hret, hml, -⟩ := C
  intro H locs ls hR hS hL
  exact lv_dup hx hb hd (by rw [tv_cat, hc]; rfl) (kk H locs ls hR hS hL)
theorem M_dup2 (C : CX κ Y d mc ms) {x y : MV} (hc : mc2 x = false) (hc2 : mc2 y = false) (hd : decode Y.2.1 pc = .ok (.dup2, 1)) (kk : M κ N T (pc + 1) L (x :: y :: x :: y :: st) v k n Q) : M κ N T pc L (x :: y :: st) v k n Q := by
  obtain ⟨p, l, e, R, s, m, args, below, meth, c, b, δ⟩ := κ
  obtain ⟨hx, hb, hown, hts, hKK, hEX, hlocks, hnm, hret, hml, -⟩ := C
  intro H locs ls hR hS hL
  exact lv_dup2_11 hx hb hd (by rw [tv_cat, hc]; rfl) (by rw [tv_cat, hc2]; rfl) (kk H locs ls hR hS hL)
theorem M_pop (C : CX κ Y d mc ms) {x : MV} (hc : mc2 x = false) (hd : decode Y.2.1 pc = .ok (.pop, 1)) (kk : M κ N T (pc + 1) L (st) v k n Q) : M κ N T pc L (x :: st) v k n Q := by
  obtain ⟨p, l, e, R, s, m, args, below, meth, c, b, δ⟩ := κ
  obtain ⟨hx, hb, hown, hts, hKK, hEX, hlocks, hnm, hret, hml, -⟩ := C
  intro H locs ls hR hS hL
  exact lv_pop hx hb hd (by rw [tv_cat, hc]; rfl) (kk H locs ls hR hS hL)
theorem M_icmp_ge (C : CX κ Y d mc ms) {off : Int} {tgt : Nat} {x y : Int} (h1 : i32 x) (h2 : i32 y) (hd : decode Y.2.1 pc = .ok (.if_icmp .ge off, 3)) (ht : (pc : Int) + off = (tgt : Int)) (kt : y ≤ x → M κ N T tgt L st v k n Q) (kf : x < y → M κ N T (pc + 3) L st v k n Q) : M κ N T pc L (vI y :: vI x :: st) v k n Q := by
  obtain ⟨p, l, e, R, s, m, args, below, meth, c, b, δ⟩ := κ
  obtain ⟨hx, hb, -⟩ := C
  intro H locs ls hR hS hL
  exact lv_icmp_ge hx hb hd ht (fun q => kt ((ofInt_le h2 h1).mp q) H locs ls hR hS hL) (fun q => kf (by have := mt ((ofInt_le h2 h1).mpr) q; omega) H locs ls hR hS hL)
theorem M_if_ge (C : CX κ Y d mc ms) {off : Int} {tgt : Nat} {x : Int} (h1 : i32 x) (hd : decode Y.2.1 pc = .ok (.ifCond .ge off, 3)) (ht : (pc : Int) + off = (tgt : Int)) (kt : 0 ≤ x → M κ N T tgt L st v k n Q) (kf : x < 0 → M κ N T (pc + 3) L st v k n Q) : M κ N T pc L (vI x :: st) v k n Q := by
  obtain ⟨p, l, e, R, s, m, args, below, meth, c, b, δ⟩ := κ
  obtain ⟨hx, hb, -⟩ := C
  intro H locs ls hR hS hL
  have h2 : i32 0 := by decide
  exact lv_if_ge hx hb hd ht (fun q => kt ((ofInt_le h2 h1).mp q) H locs ls hR hS hL) (fun q => kf (by have := mt ((ofInt_le h2 h1).mpr) q; omega) H locs ls hR hS hL)
theorem M_icmp_lt (C : CX κ Y d mc ms) {off : Int} {tgt : Nat} {x y : Int} (h1 : i32 x) (h2 : i32 y) (hd : decode Y.2.1 pc = .ok (.if_icmp .lt off, 3)) (ht : (pc : Int) + off = (tgt : Int)) (kt : x < y → M κ N T tgt L st v k n Q) (kf : y ≤ x → M κ N T (pc + 3) L st v k n Q) : M κ N T pc L (vI y :: vI x :: st) v k n Q := by
  obtain ⟨p, l, e, R, s, m, args, below, meth, c, b, δ⟩ := κ
  obtain ⟨hx, hb, -⟩ := C
  intro H locs ls hR hS hL
  exact lv_icmp_lt hx hb hd ht (fun q => kt ((ofInt_lt h1 h2).mp q) H locs ls hR hS hL) (fun q => kf (by have := mt ((ofInt_lt h1 h2).mpr) q; omega) H locs ls hR hS hL)
theorem M_if_lt (C : CX κ Y d mc ms) {off : Int} {tgt : Nat} {x : Int} (h1 : i32 x) (hd : decode Y.2.1 pc = .ok (.ifCond .lt off, 3)) (ht : (pc : Int) + off = (tgt : Int)) (kt : x < 0 → M κ N T tgt L st v k n Q) (kf : 0 ≤ x → M κ N T (pc + 3) L st v k n Q) : M κ N T pc L (vI x :: st) v k n Q := by
  obtain ⟨p, l, e, R, s, m, args, below, meth, c, b, δ⟩ := κ
  obtain ⟨hx, hb, -⟩ := C
  intro H locs ls hR hS hL
  have h2 : i32 0 := by decide
  exact lv_if_lt hx hb hd ht (fun q => kt ((ofInt_lt h1 h2).mp q) H locs ls hR hS hL) (fun q => kf (by have := mt ((ofInt_lt h1 h2).mpr) q; omega) H locs ls hR hS hL)
theorem M_icmp_gt (C : CX κ Y d mc ms) {off : Int} {tgt : Nat} {x y : Int} (h1 : i32 x) (h2 : i32 y) (hd : decode Y.2.1 pc = .ok (.if_icmp .gt off, 3)) (ht : (pc : Int) + off = (tgt : Int)) (kt : y < x → M κ N T tgt L st v k n Q) (kf : x ≤ y → M κ N T (pc + 3) L st v k n Q) : M κ N T pc L (vI y :: vI x :: st) v k n Q := by
  obtain ⟨p, l, e, R, s, m, args, below, meth, c, b, δ⟩ := κ
  obtain ⟨hx, hb, -⟩ := C
  intro H locs ls hR hS hL
  exact lv_icmp_gt hx hb hd ht (fun q => kt ((ofInt_lt h2 h1).mp q) H locs ls hR hS hL) (fun q => kf (by have := mt ((ofInt_lt h2 h1).mpr) q; omega) H locs ls hR hS hL)
theorem M_if_gt (C : CX κ Y d mc ms) {off : Int} {tgt : Nat} {x : Int} (h1 : i32 x) (hd : decode Y.2.1 pc = .ok (.ifCond .gt off, 3)) (ht : (pc : Int) + off = (tgt : Int)) (kt : 0 < x → M κ N T tgt L st v k n Q) (kf : x ≤ 0 → M κ N T (pc + 3) L st v k n Q) : M κ N T pc L (vI x :: st) v k n Q := by
  obtain ⟨p, l, e, R, s, m, args, below, meth, c, b, δ⟩ := κ
  obtain ⟨hx, hb, -⟩ := C
  intro H locs ls hR hS hL
  have h2 : i32 0 := by decide
  exact lv_if_gt hx hb hd ht (fun q => kt ((ofInt_lt h2 h1).mp q) H locs ls hR hS hL) (fun q => kf (by have := mt ((ofInt_lt h2 h1).mpr) q; omega) H locs ls hR hS hL)
theorem M_icmp_le (C : CX κ Y d mc ms) {off : Int} {tgt : Nat} {x y : Int} (h1 : i32 x) (h2 : i32 y) (hd : decode Y.2.1 pc = .ok (.if_icmp .le off, 3)) (ht : (pc : Int) + off = (tgt : Int)) (kt : x ≤ y → M κ N T tgt L st v k n Q) (kf : y < x → M κ N T (pc + 3) L st v k n Q) : M κ N T pc L (vI y :: vI x :: st) v k n Q := by
  obtain ⟨p, l, e, R, s, m, args, below, meth, c, b, δ⟩ := κ
  obtain ⟨hx, hb, -⟩ := C
  intro H locs ls hR hS hL
  exact lv_icmp_le hx hb hd ht (fun q => kt ((ofInt_le h1 h2).mp q) H locs ls hR hS hL) (fun q => kf (by have := mt ((ofInt_le h1 h2).mpr) q; omega) H locs ls hR hS hL)
theorem M_if_le (C : CX κ Y d mc ms) {off : Int} {tgt : Nat} {x : Int} (h1 : i32 x) (hd : decode Y.2.1 pc = .ok (.ifCond .le off, 3)) (ht : (pc : Int) + off = (tgt : Int)) (kt : x ≤ 0 → M κ N T tgt L st v k n Q) (kf : 0 < x → M κ N T (pc + 3) L st v k n Q) : M κ N T pc L (vI x :: st) v k n Q := by
  obtain ⟨p, l, e, R, s, m, args, below, meth, c, b, δ⟩ := κ
  obtain ⟨hx, hb, -⟩ := C
  intro H locs ls hR hS hL
  have h2 : i32 0 := by decide
  exact lv_if_le hx hb hd ht (fun q => kt ((ofInt_le h1 h2).mp q) H locs ls hR hS hL) (fun q => kf (by have := mt ((ofInt_le h1 h2).mpr) q; omega) H locs ls hR hS hL)
theorem M_icmp_eq (C : CX κ Y d mc ms) {off : Int} {tgt : Nat} {x y : Int} (h1 : i32 x) (h2 : i32 y) (hd : decode Y.2.1 pc = .ok (.if_icmp .eq off, 3)) (ht : (pc : Int) + off = (tgt : Int)) (kt : x = y → M κ N T tgt L st v k n Q) (kf : x ≠ y → M κ N T (pc + 3) L st v k n Q) : M κ N T pc L (vI y :: vI x :: st) v k n Q := by
  obtain ⟨p, l, e, R, s, m, args, below, meth, c, b, δ⟩ := κ
  obtain ⟨hx, hb, -⟩ := C
  intro H locs ls hR hS hL
  exact lv_icmp_eq hx hb hd ht (fun q => kt ((ofInt_inj h1 h2).mp q) H locs ls hR hS hL) (fun q => kf (by have := mt ((ofInt_inj h1 h2).mpr) q; omega) H locs ls hR hS hL)
theorem M_if_eq (C : CX κ Y d mc ms) {off : Int} {tgt : Nat} {x : Int} (h1 : i32 x) (hd : decode Y.2.1 pc = .ok (.ifCond .eq off, 3)) (ht : (pc : Int) + off = (tgt : Int)) (kt : x = 0 → M κ N T tgt L st v k n Q) (kf : x ≠ 0 → M κ N T (pc + 3) L st v k n Q) : M κ N T pc L (vI x :: st) v k n Q := by
  obtain ⟨p, l, e, R, s, m, args, below, meth, c, b, δ⟩ := κ
  obtain ⟨hx, hb, -⟩ := C
  intro H locs ls hR hS hL
  have h2 : i32 0 := by decide
  exact lv_if_eq hx hb hd ht (fun q => kt ((ofInt_inj h1 h2).mp q) H locs ls hR hS hL) (fun q => kf (by have := mt ((ofInt_inj h1 h2).mpr) q; omega) H locs ls hR hS hL)
theorem M_icmp_ne (C : CX κ Y d mc ms) {off : Int} {tgt : Nat} {x y : Int} (h1 : i32 x) (h2 : i32 y) (hd : decode Y.2.1 pc = .ok (.if_icmp .ne off, 3)) (ht : (pc : Int) + off = (tgt : Int)) (kt : x ≠ y → M κ N T tgt L st v k n Q) (kf : x = y → M κ N T (pc + 3) L st v k n Q) : M κ N T pc L (vI y :: vI x :: st) v k n Q := by
  obtain ⟨p, l, e, R, s, m, args, below, meth, c, b, δ⟩ := κ
  obtain ⟨hx, hb, -⟩ := C
  intro H locs ls hR hS hL
  exact lv_icmp_ne hx hb hd ht (fun q => kt (fun e => q ((ofInt_inj h1 h2).mpr e)) H locs ls hR hS hL) (fun q => kf ((ofInt_inj h1 h2).mp q) H locs ls hR hS hL)
theorem M_if_ne (C : CX κ Y d mc ms) {off : Int} {tgt : Nat} {x : Int} (h1 : i32 x) (hd : decode Y.2.1 pc = .ok (.ifCond .ne off, 3)) (ht : (pc : Int) + off = (tgt : Int)) (kt : x ≠ 0 → M κ N T tgt L st v k n Q) (kf : x = 0 → M κ N T (pc + 3) L st v k n Q) : M κ N T pc L (vI x :: st) v k n Q := by
  obtain ⟨p, l, e, R, s, m, args, below, meth, c, b, δ⟩ := κ
  obtain ⟨hx, hb, -⟩ := C
  intro H locs ls hR hS hL
  have h2 : i32 0 := by decide
  exact lv_if_ne hx hb hd ht (fun q => kt (fun e => q ((ofInt_inj h1 h2).mpr e)) H locs ls hR hS hL) (fun q => kf ((ofInt_inj h1 h2).mp q) H locs ls hR hS hL)
theorem M_goto (C : CX κ Y d mc ms) {off : Int} {tgt : Nat} (hd : decode Y.2.1 pc = .ok (.goto off, 3)) (ht : (pc : Int) + off = (tgt : Int)) (kk : M κ N T tgt L st v k n Q) : M κ N T pc L (st) v k n Q := by
  obtain ⟨p, l, e, R, s, m, args, below, meth, c, b, δ⟩ := κ
  obtain ⟨hx, hb, -⟩ := C
  intro H locs ls hR hS hL
  exact lv_goto hx hb hd ht (kk H locs ls hR hS hL)
theorem M_ifnull (C : CX κ Y d mc ms) {off : Int} {tgt : Nat} {x : Int} (h1 : -1 ≤ x) (hd : decode Y.2.1 pc = .ok (.ifnull off, 3)) (ht : (pc : Int) + off = (tgt : Int)) (kt : x < 0 → M κ N T tgt L st v k n Q) (kf : 0 ≤ x → M κ N T (pc + 3) L st v k n Q) : M κ N T pc L (vR x :: st) v k n Q := by
  obtain ⟨p, l, e, R, s, m, args, below, meth, c, b, δ⟩ := κ
  obtain ⟨hx, hb, -⟩ := C
  intro H locs ls hR hS hL
  rcases Int.lt_or_le x 0 with h | h
  · simp only [List.map_cons, tv, rf_neg (show x = -1 by omega)]
    exact lv_ifnullN hx hb hd ht (kt h H locs ls hR hS hL)
  · simp only [List.map_cons, tv, rf_pos h]
    exact lv_ifnull hx hb hd (kf h H locs ls hR hS hL)
theorem M_ifnonnull (C : CX κ Y d mc ms) {off : Int} {tgt : Nat} {x : Int} (h1 : -1 ≤ x) (hd : decode Y.2.1 pc = .ok (.ifnonnull off, 3)) (ht : (pc : Int) + off = (tgt : Int)) (kt : 0 ≤ x → M κ N T tgt L st v k n Q) (kf : x < 0 → M κ N T (pc + 3) L st v k n Q) : M κ N T pc L (vR x :: st) v k n Q := by
  obtain ⟨p, l, e, R, s, m, args, below, meth, c, b, δ⟩ := κ
  obtain ⟨hx, hb, -⟩ := C
  intro H locs ls hR hS hL
  rcases Int.lt_or_le x 0 with h | h
  · simp only [List.map_cons, tv, rf_neg (show x = -1 by omega)]
    exact lv_ifnonnullN hx hb hd (kf h H locs ls hR hS hL)
  · simp only [List.map_cons, tv, rf_pos h]
    exact lv_ifnonnull hx hb hd ht (kt h H locs ls hR hS hL)
theorem M_tableIn (C : CX κ Y d mc ms) {x dflt lo hi off : Int} {offs : Array Int} {len tgt : Nat} (h1 : i32 x) (h2 : lo ≤ x ∧ x ≤ hi) (ho : offs[(x - lo).toNat]? = some off) (hd : decode Y.2.1 pc = .ok (.tableswitch dflt lo hi offs, len)) (ht : (pc : Int) + off = (tgt : Int)) (kk : M κ N T tgt L st v k n Q) : M κ N T pc L (vI x :: st) v k n Q := by
  obtain ⟨p, l, e, R, s, m, args, below, meth, c, b, δ⟩ := κ
  obtain ⟨hx, hb, -⟩ := C
  intro H locs ls hR hS hL
  exact lv_tableIn hx hb hd (by rw [i32_to h1]; omega) (by rw [i32_to h1]; omega) (by rw [i32_to h1]; exact ho) ht (kk H locs ls hR hS hL)
theorem M_tableOut (C : CX κ Y d mc ms) {x dflt lo hi : Int} {offs : Array Int} {len tgt : Nat} (h1 : i32 x) (h2 : x < lo ∨ hi < x) (hd : decode Y.2.1 pc = .ok (.tableswitch dflt lo hi offs, len)) (ht : (pc : Int) + dflt = (tgt : Int)) (kk : M κ N T tgt L st v k n Q) : M κ N T pc L (vI x :: st) v k n Q := by
  obtain ⟨p, l, e, R, s, m, args, below, meth, c, b, δ⟩ := κ
  obtain ⟨hx, hb, -⟩ := C
  intro H locs ls hR hS hL
  exact lv_tableOut hx hb hd (by rw [i32_to h1]; exact h2) ht (kk H locs ls hR hS hL)
theorem M_lookup (C : CX κ Y d mc ms) {x dflt off : Int} {ps : Array (Int × Int)} {len tgt : Nat} (h1 : i32 x) (hp : (ps.toList.zip (ps.toList.drop 1)).all (fun (a, next) => a.1 < next.1) = true) (ho : Op.lookupswitch.offset ps.toList dflt x = off) (hd : decode Y.2.1 pc = .ok (.lookupswitch dflt ps, len)) (ht : (pc : Int) + off = (tgt : Int)) (kk : M κ N T tgt L st v k n Q) : M κ N T pc L (vI x :: st) v k n Q := by
  obtain ⟨p, l, e, R, s, m, args, below, meth, c, b, δ⟩ := κ
  obtain ⟨hx, hb, -⟩ := C
  intro H locs ls hR hS hL
  exact lv_lookup hx hb hd hp (by rw [i32_to h1]; exact ho) ht (kk H locs ls hR hS hL)
theorem M_iretP (C : CX κ Y d mc ms) {x : Int} (ho : Y.2.2.2 = some .int) {Post : Option MV → Ct → Prop} (hd : decode Y.2.1 pc = .ok (.ireturn, 1)) (hr : Post (some (vI x)) v) : M κ N T pc L [vI x] v mc ms (QP κ N T Post mc ms) := by
  obtain ⟨p, l, e, R, s, m, args, below, meth, c, b, δ⟩ := κ
  obtain ⟨hx, hb, hown, hts, hKK, hEX, hlocks, hnm, hret, hml, -⟩ := C
  intro H locs ls hR hS hL
  exact W.iret hx hb (hret.trans ho) (fun t ht hW => ⟨_, _, hr, rfl, by rw [ht]; exact hR, hS.F ht⟩) hS.2.2 hd hlocks
theorem M_iret (C : CX κ Y d mc ms) {x : Int} (ho : Y.2.2.2 = some .int) {r : MV} {v2 : Ct} (hd : decode Y.2.1 pc = .ok (.ireturn, 1)) (hr : vI x = r) (hv : v = v2) : M κ N T pc L [vI x] v mc ms (QR κ (some r) N T v2 mc ms) :=
  M_iretP C ho hd ⟨congrArg some hr, hv⟩
theorem M_zretP (C : CX κ Y d mc ms) {x : Int} (ho : Y.2.2.2 = some .boolean) (hz : x = 0 ∨ x = 1) {Post : Option MV → Ct → Prop} (hd : decode Y.2.1 pc = .ok (.ireturn, 1)) (hr : Post (some (vI x)) v) : M κ N T pc L [vI x] v mc ms (QP κ N T Post mc ms) := by
  obtain ⟨p, l, e, R, s, m, args, below, meth, c, b, δ⟩ := κ
  obtain ⟨hx, hb, hown, hts, hKK, hEX, hlocks, hnm, hret, hml, -⟩ := C
  intro H locs ls hR hS hL
  have hn : narrow .boolean (.int (Int32.ofInt x)) = .int (Int32.ofInt x) := by rcases hz with rfl | rfl <;> rfl
  exact W.zret hx hb (hret.trans ho) hn (fun t ht hW => ⟨_, _, hr, rfl, by rw [ht]; exact hR, hS.F ht⟩) hS.2.2 hd hlocks
theorem M_zret (C : CX κ Y d mc ms) {x : Int} (ho : Y.2.2.2 = some .boolean) (hz : x = 0 ∨ x = 1) {r : MV} {v2 : Ct} (hd : decode Y.2.1 pc = .ok (.ireturn, 1)) (hr : vI x = r) (hv : v = v2) : M κ N T pc L [vI x] v mc ms (QR κ (some r) N T v2 mc ms) :=
  M_zretP C ho hz hd ⟨congrArg some hr, hv⟩
theorem M_lretP (C : CX κ Y d mc ms) {x : Int} (ho : Y.2.2.2 = some .long) {Post : Option MV → Ct → Prop} (hd : decode Y.2.1 pc = .ok (.lreturn, 1)) (hr : Post (some (vJ x)) v) : M κ N T pc L [vJ x] v mc ms (QP κ N T Post mc ms) := by
  obtain ⟨p, l, e, R, s, m, args, below, meth, c, b, δ⟩ := κ
  obtain ⟨hx, hb, hown, hts, hKK, hEX, hlocks, hnm, hret, hml, -⟩ := C
  intro H locs ls hR hS hL
  exact W.lret hx hb (hret.trans ho) (fun t ht hW => ⟨_, _, hr, rfl, by rw [ht]; exact hR, hS.F ht⟩) hS.2.2 hd hlocks
theorem M_lret (C : CX κ Y d mc ms) {x : Int} (ho : Y.2.2.2 = some .long) {r : MV} {v2 : Ct} (hd : decode Y.2.1 pc = .ok (.lreturn, 1)) (hr : vJ x = r) (hv : v = v2) : M κ N T pc L [vJ x] v mc ms (QR κ (some r) N T v2 mc ms) :=
  M_lretP C ho hd ⟨congrArg some hr, hv⟩
theorem M_dretP (C : CX κ Y d mc ms) {x : UInt64} (ho : Y.2.2.2 = some .double) {Post : Option MV → Ct → Prop} (hd : decode Y.2.1 pc = .ok (.dreturn, 1)) (hr : Post (some (vD x)) v) : M κ N T pc L [vD x] v mc ms (QP κ N T Post mc ms) := by
  obtain ⟨p, l, e, R, s, m, args, below, meth, c, b, δ⟩ := κ
  obtain ⟨hx, hb, hown, hts, hKK, hEX, hlocks, hnm, hret, hml, -⟩ := C
  intro H locs ls hR hS hL
  exact W.dret hx hb (hret.trans ho) (fun t ht hW => ⟨_, _, hr, rfl, by rw [ht]; exact hR, hS.F ht⟩) hS.2.2 hd hlocks
theorem M_dret (C : CX κ Y d mc ms) {x : UInt64} (ho : Y.2.2.2 = some .double) {r : MV} {v2 : Ct} (hd : decode Y.2.1 pc = .ok (.dreturn, 1)) (hr : vD x = r) (hv : v = v2) : M κ N T pc L [vD x] v mc ms (QR κ (some r) N T v2 mc ms) :=
  M_dretP C ho hd ⟨congrArg some hr, hv⟩
theorem M_vretP (C : CX κ Y d mc ms) {T2 : Ty} {Post : Option MV → Ct → Prop} (ho : Y.2.2.2 = none) (hd : decode Y.2.1 pc = .ok (.return_, 1)) (hr : Post none v) (hT : T = T2) : M κ N T pc L [] v mc ms (QP κ N T2 Post mc ms) := by
  subst hT
  obtain ⟨p, l, e, R, s, m, args, below, meth, c, b, δ⟩ := κ
  obtain ⟨hx, hb, hown, hts, hKK, hEX, hlocks, hnm, hret, hml, -⟩ := C
  intro H locs ls hR hS hL
  exact W.vret hx hb (hret.trans ho) (fun t ht hW => ⟨_, _, hr, rfl, by rw [ht]; exact hR, hS.F ht⟩) hS.2.2 hd hlocks
theorem M_vret (C : CX κ Y d mc ms) {v2 : Ct} {T2 : Ty} (ho : Y.2.2.2 = none) (hd : decode Y.2.1 pc = .ok (.return_, 1)) (hv : v = v2) (hT : T = T2) : M κ N T pc L [] v mc ms (QR κ none N T2 v2 mc ms) :=
  M_vretP C ho hd ⟨rfl, hv⟩ hT
theorem M.widen {k2 n2 : Nat} (h1 : k ≤ k2) (h2 : n ≤ n2) (kk : M κ N T pc L st v k2 n2 Q) : M κ N T pc L st v k n Q := by
  obtain ⟨p, l, e, R, s, m, args, below, meth, c, b, δ⟩ := κ
  intro H locs ls hR hS hL
  exact W.widen h1 h2 (kk H locs ls hR hS hL)
end ROWS3
