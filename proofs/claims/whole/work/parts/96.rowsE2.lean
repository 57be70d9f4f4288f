/-! the bits of a share, as the class finds them -/
theorem lc_X7_264 : Cond.constantDouble RX7 264 4611686018427387904 ∈ GW := GW_t (i := 583) (by decide +kernel) rfl
theorem lc_X7_266 : Cond.constantDouble RX7 266 4841369599423283200 ∈ GW := GW_t (i := 584) (by decide +kernel) rfl
def cpI (x y : UInt64) : Int := (Op.cmpValue (FP.dcmp x y) .g).toInt
theorem cpI_e (x y : UInt64) : Op.cmpValue (FP.dcmp x y) .g = Int32.ofInt (cpI x y) := (Int32.ofInt_toInt _).symm
theorem cpI_i32 (x y : UInt64) : i32 (cpI x y) := ⟨Int32.le_toInt _, Int32.toInt_lt _⟩
def shI (e : Int) : Int := (Int64.ofInt e <<< ((Int32.ofInt 52).toInt64 &&& 63)).toInt
def boF (y : UInt64) (e : Nat) (w : Int) : Bool :=
  nn64 (FP.dsub y FP.dconst1) && (nn64 (FP.dmul (FP.dsub y FP.dconst1) 4841369599423283200) && decide (shI (e : Int) + (FP.d2l (FP.dmul (FP.dsub y FP.dconst1) 4841369599423283200)).toInt = w))
def boL : Nat → UInt64 → Nat → Int → Bool
  | 0, _, _, _ => false
  | k + 1, y, e, w => if 0 ≤ cpI y FP.dconst1 ∨ e ≤ 1 then boF y e w else nn64 (FP.dmul y 4611686018427387904) && boL k (FP.dmul y 4611686018427387904) (e - 1) w
def boB (x : UInt64) : Bool := if 0 < cpI x FP.dconst0 then boL 12 x 1023 x.toInt64.toInt else decide (x.toInt64.toInt = 0)
theorem c_X7_bitsOf {N : Nat} {T : Ty} {v : Ct} {x : UInt64} (hT : TT T) (hb : boB x = true) : Runs mX7_bitsOf 0 0 0 [vD x] N T v (some (vJ x.toInt64.toInt)) N T v := by
  refine Runs.of (by decide) (Nat.le_of_ble_eq_true rfl) fun κ C => ?_
  refine M_dload_n (pc := 0) C dX7_bitsOf_0 rfl ?_
  refine M_dconst0 (pc := 1) C dX7_bitsOf_1 ?_
  refine M_dcmp (pc := 2) C (cpI_e _ _) dX7_bitsOf_2 ?_
  unfold boB at hb
  have hfin : ∀ (y : UInt64) (e : Nat), e ≤ 1023 → boF y e x.toInt64.toInt = true → M κ N T 39 [some (vD x), none, some (vD y), none, some (vI (e : Int))] [] v 0 0 (QR κ (some (vJ x.toInt64.toInt)) N T v 0 0) := fun y e he h => by
    obtain ⟨h1, h2⟩ := Bool.and_eq_true_iff.mp h
    obtain ⟨h3, h4⟩ := Bool.and_eq_true_iff.mp h2
    have h4 := of_decide_eq_true h4
    refine M_iload (pc := 39) C dX7_bitsOf_39 rfl ?_
    refine M_i2l (pc := 41) C (by omega) dX7_bitsOf_41 ?_
    refine M_bipush (pc := 42) C (by decide) dX7_bitsOf_42 ?_
    refine M_lshl (pc := 44) C (z := shI (e : Int)) (Int64.ofInt_toInt _).symm dX7_bitsOf_44 ?_
    refine M_dload_n (pc := 45) C dX7_bitsOf_45 rfl ?_
    refine M_dconst1 (pc := 46) C dX7_bitsOf_46 ?_
    refine M_dsub (pc := 47) C rfl (nn64_ok h1) dX7_bitsOf_47 ?_
    refine M_ldc2d (pc := 48) C lc_X7_266 dX7_bitsOf_48 ?_
    refine M_dmul (pc := 51) C rfl (nn64_ok h3) dX7_bitsOf_51 ?_
    refine M_d2l (pc := 52) C (Int64.ofInt_toInt _).symm dX7_bitsOf_52 ?_
    refine M_ladd (pc := 53) C dX7_bitsOf_53 ?_
    exact M_lret (pc := 54) C rfl dX7_bitsOf_54 (by rw [h4]) rfl
  have hloop : ∀ (k : Nat) (y : UInt64) (e : Nat), e ≤ 1023 → boL k y e x.toInt64.toInt = true → M κ N T 15 [some (vD x), none, some (vD y), none, some (vI (e : Int))] [] v 0 0 (QR κ (some (vJ x.toInt64.toInt)) N T v 0 0) := by
    intro k
    induction k with
    | zero => intro y e _ h; cases h
    | succ k ih =>
      intro y e he h
      have h : (if 0 ≤ cpI y FP.dconst1 ∨ e ≤ 1 then boF y e x.toInt64.toInt else nn64 (FP.dmul y 4611686018427387904) && boL k (FP.dmul y 4611686018427387904) (e - 1) x.toInt64.toInt) = true := h
      refine M_dload_n (pc := 15) C dX7_bitsOf_15 rfl ?_
      refine M_dconst1 (pc := 16) C dX7_bitsOf_16 ?_
      refine M_dcmp (pc := 17) C (cpI_e _ _) dX7_bitsOf_17 ?_
      refine M_if_ge (pc := 18) C (tgt := 39) (cpI_i32 _ _) dX7_bitsOf_18 (by decide) (fun h18 => ?_) (fun h18 => ?_)
      · rw [if_pos (Or.inl h18)] at h
        exact hfin y e he h
      · refine M_iload (pc := 21) C dX7_bitsOf_21 rfl ?_
        refine M_iconst (pc := 23) C dX7_bitsOf_23 ?_
        refine M_icmp_le (pc := 24) C (tgt := 39) (by omega) (by omega) dX7_bitsOf_24 (by decide) (fun h24 => ?_) (fun h24 => ?_)
        · rw [if_pos (Or.inr (by omega))] at h
          exact hfin y e he h
        · rw [if_neg (by omega)] at h
          obtain ⟨h1, h2⟩ := Bool.and_eq_true_iff.mp h
          refine M_dload_n (pc := 27) C dX7_bitsOf_27 rfl ?_
          refine M_ldc2d (pc := 28) C lc_X7_264 dX7_bitsOf_28 ?_
          refine M_dmul (pc := 31) C rfl (nn64_ok h1) dX7_bitsOf_31 ?_
          refine M_dstore_n (pc := 32) C dX7_bitsOf_32 (by decide) ?_
          refine M_iinc (pc := 33) C dX7_bitsOf_33 rfl (by decide) ?_
          refine M_goto (pc := 36) C (tgt := 15) dX7_bitsOf_36 (by decide) ?_
          exact M.to (ih (FP.dmul y 4611686018427387904) (e - 1) (by omega) h2) (by rw [show ((e - 1 : Nat) : Int) = (e : Int) + (-1) by omega]; rfl) rfl rfl
  refine M_if_gt (pc := 3) C (tgt := 8) (cpI_i32 _ _) dX7_bitsOf_3 (by decide) (fun h3 => ?_) (fun h3 => ?_)
  · rw [if_pos h3] at hb
    refine M_dload_n (pc := 8) C dX7_bitsOf_8 rfl ?_
    refine M_dstore_n (pc := 9) C dX7_bitsOf_9 (by decide) ?_
    refine M_sipush (pc := 10) C (by decide) dX7_bitsOf_10 ?_
    refine M_istore (pc := 13) C dX7_bitsOf_13 (by decide) ?_
    exact M.to (hloop 12 x 1023 (Nat.le_refl _) hb) rfl rfl rfl
  · rw [if_neg (by omega)] at hb
    refine M_lconst (pc := 6) C (x := 0) (by decide) dX7_bitsOf_6 ?_
    exact M_lret (pc := 7) C rfl dX7_bitsOf_7 (by rw [of_decide_eq_true hb]) rfl
