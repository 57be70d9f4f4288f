theorem c_J6_bitCount_0f7a4 {N : Nat} {T : Ty} {x : Nat} {v : Ct} (hT : TT T) (hx : x < 65536) : Runs mJ6_bitCount_0f7a4 0 0 0 [vI ((x : Nat) : Int)] N T v (some (vI ((pcN x 16 : Nat) : Int))) N T v := by
  obtain ⟨y1, e1⟩ : ∃ y, y = bc1 x := ⟨_, rfl⟩
  obtain ⟨y2, e2⟩ : ∃ y, y = bc2 y1 := ⟨_, rfl⟩
  obtain ⟨y3, e3⟩ : ∃ y, y = bc3 y2 := ⟨_, rfl⟩
  obtain ⟨y4, e4⟩ : ∃ y, y = bc4 y3 := ⟨_, rfl⟩
  obtain ⟨y5, e5⟩ : ∃ y, y = bc5 y4 := ⟨_, rfl⟩
  have l1 : y1 ≤ x := by rw [e1]; exact (bc1_le x).1
  have l2 : y2 ≤ 2 * y1 := by rw [e2]; exact bc2_le y1
  have l3 : y3 ≤ 2 * y2 := by rw [e3]; exact bc3_le y2
  have l4 : y4 ≤ 2 * y3 := by rw [e4]; unfold bc4; omega
  have l5 : y5 ≤ 2 * y4 := by rw [e5]; unfold bc5; omega
  refine Runs.of (by decide) (Nat.le_of_ble_eq_true rfl) fun κ C => ?_
  refine M_iload_n (pc := 0) C dJ6_bitCount_0f7a4_0 rfl ?_
  refine M_iload_n (pc := 1) C dJ6_bitCount_0f7a4_1 rfl ?_
  refine M_iconst (pc := 2) C dJ6_bitCount_0f7a4_2 ?_
  refine M_iushr (pc := 3) C (z := ((x / 2 ^ 1 : Nat) : Int)) (ushr_of (x := x) (y := 1) (by omega) (by decide)) dJ6_bitCount_0f7a4_3 ?_
  refine M_ldcw (pc := 4) C lc_J6_265 (z := 1431655765) rfl dJ6_bitCount_0f7a4_4 ?_
  refine M_iand (pc := 7) C (by omega) (by omega) dJ6_bitCount_0f7a4_7 ?_
  refine M_isub (pc := 8) C dJ6_bitCount_0f7a4_8 ?_
  refine M.to (st2 := [vI ((y1 : Nat) : Int)]) ?_ rfl (by rw [e1, bc_e1]; rfl) rfl
  refine M_istore_n (pc := 9) C dJ6_bitCount_0f7a4_9 (by decide) ?_
  refine M_iload_n (pc := 10) C dJ6_bitCount_0f7a4_10 rfl ?_
  refine M_ldcw (pc := 11) C lc_J6_266 (z := 858993459) rfl dJ6_bitCount_0f7a4_11 ?_
  refine M_iand (pc := 14) C (by omega) (by omega) dJ6_bitCount_0f7a4_14 ?_
  refine M_iload_n (pc := 15) C dJ6_bitCount_0f7a4_15 rfl ?_
  refine M_iconst (pc := 16) C dJ6_bitCount_0f7a4_16 ?_
  refine M_iushr (pc := 17) C (z := ((y1 / 2 ^ 2 : Nat) : Int)) (ushr_of (x := y1) (y := 2) (by omega) (by decide)) dJ6_bitCount_0f7a4_17 ?_
  refine M_ldcw (pc := 18) C lc_J6_266 (z := 858993459) rfl dJ6_bitCount_0f7a4_18 ?_
  refine M_iand (pc := 21) C (by omega) (by omega) dJ6_bitCount_0f7a4_21 ?_
  refine M_iadd (pc := 22) C dJ6_bitCount_0f7a4_22 ?_
  refine M.to (st2 := [vI ((y2 : Nat) : Int)]) ?_ rfl (by rw [e2]; rfl) rfl
  refine M_istore_n (pc := 23) C dJ6_bitCount_0f7a4_23 (by decide) ?_
  refine M_iload_n (pc := 24) C dJ6_bitCount_0f7a4_24 rfl ?_
  refine M_iload_n (pc := 25) C dJ6_bitCount_0f7a4_25 rfl ?_
  refine M_iconst (pc := 26) C dJ6_bitCount_0f7a4_26 ?_
  refine M_iushr (pc := 27) C (z := ((y2 / 2 ^ 4 : Nat) : Int)) (ushr_of (x := y2) (y := 4) (by omega) (by decide)) dJ6_bitCount_0f7a4_27 ?_
  refine M_iadd (pc := 28) C dJ6_bitCount_0f7a4_28 ?_
  refine M_ldcw (pc := 29) C lc_J6_267 (z := 252645135) rfl dJ6_bitCount_0f7a4_29 ?_
  refine M_iand (pc := 32) C (by omega) (by omega) dJ6_bitCount_0f7a4_32 ?_
  refine M.to (st2 := [vI ((y3 : Nat) : Int)]) ?_ rfl (by rw [e3]; rfl) rfl
  refine M_istore_n (pc := 33) C dJ6_bitCount_0f7a4_33 (by decide) ?_
  refine M_iload_n (pc := 34) C dJ6_bitCount_0f7a4_34 rfl ?_
  refine M_iload_n (pc := 35) C dJ6_bitCount_0f7a4_35 rfl ?_
  refine M_bipush (pc := 36) C (by decide) dJ6_bitCount_0f7a4_36 ?_
  refine M_iushr (pc := 38) C (z := ((y3 / 2 ^ 8 : Nat) : Int)) (ushr_of (x := y3) (y := 8) (by omega) (by decide)) dJ6_bitCount_0f7a4_38 ?_
  refine M_iadd (pc := 39) C dJ6_bitCount_0f7a4_39 ?_
  refine M.to (st2 := [vI ((y4 : Nat) : Int)]) ?_ rfl (by rw [e4]; rfl) rfl
  refine M_istore_n (pc := 40) C dJ6_bitCount_0f7a4_40 (by decide) ?_
  refine M_iload_n (pc := 41) C dJ6_bitCount_0f7a4_41 rfl ?_
  refine M_iload_n (pc := 42) C dJ6_bitCount_0f7a4_42 rfl ?_
  refine M_bipush (pc := 43) C (by decide) dJ6_bitCount_0f7a4_43 ?_
  refine M_iushr (pc := 45) C (z := ((y4 / 2 ^ 16 : Nat) : Int)) (ushr_of (x := y4) (y := 16) (by omega) (by decide)) dJ6_bitCount_0f7a4_45 ?_
  refine M_iadd (pc := 46) C dJ6_bitCount_0f7a4_46 ?_
  refine M.to (st2 := [vI ((y5 : Nat) : Int)]) ?_ rfl (by rw [e5]; rfl) rfl
  refine M_istore_n (pc := 47) C dJ6_bitCount_0f7a4_47 (by decide) ?_
  refine M_iload_n (pc := 48) C dJ6_bitCount_0f7a4_48 rfl ?_
  refine M_bipush (pc := 49) C (by decide) dJ6_bitCount_0f7a4_49 ?_
  refine M_imask (pc := 51) C 6 (by decide) (by decide) dJ6_bitCount_0f7a4_51 ?_
  exact M_iret (pc := 52) C rfl dJ6_bitCount_0f7a4_52 (by rw [← bcN_pc hx]; unfold bcN; rw [← e1, ← e2, ← e3, ← e4, ← e5, show 63 = 2 ^ 6 - 1 from rfl, Nat.and_two_pow_sub_one_eq_mod]; rfl) rfl
theorem c_X0_tailCellsIn {N : Nat} {T : Ty} {b : Nat} {v : Ct} (hT : TT T) (hD : DI (v 5) (v 6) (v 7) (v 8)) (hb : b < 24) : Runs mX0_tailCellsIn 2 0 0 [vR 1, vI ((b : Nat) : Int)] N T v (some (vI ((tcN (v 2) (v 5) (v 6) (v 7) b : Nat) : Int))) N T v := by
  refine Runs.of (by decide) (Nat.le_of_ble_eq_true rfl) fun κ C => ?_
  refine M_aload_n (pc := 0) C dX0_tailCellsIn_0 rfl (by decide) ?_
  refine M_iload_n (pc := 1) C dX0_tailCellsIn_1 rfl ?_
  refine A_cV (pc := 2) C (x := vI (v 2 b)) (a := 1) (c := 0) (c_X0_kindOf_n hT (b := b) (by omega)) yw_X0_kindOf lk_X0_70 rfl (congrArg Prod.fst (tt_1 hT)) hc_0 rfl dX0_tailCellsIn_2 rfl (Nat.le_of_ble_eq_true rfl) (by decide) ⟨Nat.le_refl _, Nat.le_refl _⟩ ?_
  refine M_rd (pc := 5) C 2 b (fun (r_2_0 : i32 (v 2 b)) => ?_)
  refine M_iconst (pc := 5) C dX0_tailCellsIn_5 ?_
  refine M_icmp_ne (pc := 6) C (tgt := 21) (by omega) (by omega) dX0_tailCellsIn_6 (by decide) (fun h_6 => ?_) (fun h_6 => ?_)
  · refine M_iconst (pc := 21) C dX0_tailCellsIn_21 ?_
    exact M_iret (pc := 22) C rfl dX0_tailCellsIn_22 (by unfold tcN; first | (rw [if_pos (by omega)]; done) | (rw [if_neg (by omega)]; rfl)) rfl
  · refine M_aload_n (pc := 9) C dX0_tailCellsIn_9 rfl (by decide) ?_
    refine M_iload_n (pc := 10) C dX0_tailCellsIn_10 rfl ?_
    refine M_iconst (pc := 11) C dX0_tailCellsIn_11 ?_
    refine A_cV (pc := 12) C (x := vI ((tkA (v 5) (v 6) (v 7) ((b : Nat) : Int) (-1) : Nat) : Int)) (a := 1) (c := 0) (c_X0_takenCells hT hD (b := ((b : Nat) : Int)) (lo := -1) (by omega) (by omega) (by omega)) yw_X0_takenCells lk_X0_63 rfl (congrArg Prod.fst (tt_1 hT)) hc_0 rfl dX0_tailCellsIn_12 rfl (Nat.le_of_ble_eq_true rfl) (by decide) ⟨Nat.le_refl _, Nat.le_refl _⟩ ?_
    have htk_12 := tkA_bd (b := ((b : Nat) : Int)) (lo := -1) hD (by omega)
    refine A_cS (pc := 15) C (x := vI ((pcN (tkA (v 5) (v 6) (v 7) ((b : Nat) : Int) (-1)) 16 : Nat) : Int)) (c_J6_bitCount_0f7a4 hT (x := tkA (v 5) (v 6) (v 7) ((b : Nat) : Int) (-1)) (by omega)) yw_J6_bitCount_0f7a4 lk_X0_73 rfl dX0_tailCellsIn_15 rfl (Nat.le_of_ble_eq_true rfl) (by decide) ⟨Nat.le_refl _, Nat.le_refl _⟩ ?_
    refine M_goto (pc := 18) C (tgt := 22) dX0_tailCellsIn_18 (by decide) ?_
    exact M_iret (pc := 22) C rfl dX0_tailCellsIn_22 (by unfold tcN; first | (rw [if_pos (by omega)]; done) | (rw [if_neg (by omega)]; rfl)) rfl
theorem c_X0_sharedTailCells {N : Nat} {T : Ty} {v : Ct} (hT : TT T) (hD : DI (v 5) (v 6) (v 7) (v 8)) : Runs mX0_sharedTailCells 3 0 0 [vR 1] N T v (some (vI (sumN (fun b => ((tcN (v 2) (v 5) (v 6) (v 7) b : Nat) : Int)) 24))) N T v := by
  refine Runs.of (by decide) (Nat.le_of_ble_eq_true rfl) fun κ C => ?_
  refine M_iconst (pc := 0) C dX0_sharedTailCells_0 ?_
  refine M_istore_n (pc := 1) C dX0_sharedTailCells_1 (by decide) ?_
  refine M_iconst (pc := 2) C dX0_sharedTailCells_2 ?_
  refine M_istore_n (pc := 3) C dX0_sharedTailCells_3 (by decide) ?_
  refine loop_le (P := fun i => M κ N T 4 [some (vR 1), some (vI (sumN (fun b => ((tcN (v 2) (v 5) (v 6) (v 7) b : Nat) : Int)) i)), some (vI ((i : Nat) : Int))] [] v 0 0 (QR κ (some (vI (sumN (fun b => ((tcN (v 2) (v 5) (v 6) (v 7) b : Nat) : Int)) 24))) N T v 0 0)) 24 (fun i hi ih => ?_)
  refine M_iload_n (pc := 4) C dX0_sharedTailCells_4 rfl ?_
  refine M_bipush (pc := 5) C (by decide) dX0_sharedTailCells_5 ?_
  refine M_icmp_ge (pc := 7) C (tgt := 24) (by omega) (by omega) dX0_sharedTailCells_7 (by decide) (fun h_7 => ?_) (fun h_7 => ?_)
  · refine M_iload_n (pc := 24) C dX0_sharedTailCells_24 rfl ?_
    exact M_iret (pc := 25) C rfl dX0_sharedTailCells_25 (by rw [show i = 24 by omega]) rfl
  · refine M_iload_n (pc := 10) C dX0_sharedTailCells_10 rfl ?_
    refine M_aload_n (pc := 11) C dX0_sharedTailCells_11 rfl (by decide) ?_
    refine M_iload_n (pc := 12) C dX0_sharedTailCells_12 rfl ?_
    refine A_cV (pc := 13) C (x := vI ((tcN (v 2) (v 5) (v 6) (v 7) i : Nat) : Int)) (a := 1) (c := 0) (c_X0_tailCellsIn hT hD (b := i) (by omega)) yw_X0_tailCellsIn lk_X0_57 rfl (congrArg Prod.fst (tt_1 hT)) hc_0 rfl dX0_sharedTailCells_13 rfl (Nat.le_of_ble_eq_true rfl) (by decide) ⟨Nat.le_refl _, Nat.le_refl _⟩ ?_
    have htc_13 := tcN_le (v 2) (v 5) (v 6) (v 7) i
    refine M_iadd (pc := 16) C dX0_sharedTailCells_16 ?_
    refine M_istore_n (pc := 17) C dX0_sharedTailCells_17 (by decide) ?_
    refine M_iinc (pc := 18) C dX0_sharedTailCells_18 rfl (by decide) ?_
    refine M_goto (pc := 21) C (tgt := 4) dX0_sharedTailCells_21 (by decide) ?_
    exact M.to (ih (by omega)) (by rw [sumN_s rfl]; rfl) rfl rfl
theorem c_X0_tailsIn {N : Nat} {T : Ty} {b : Nat} {v : Ct} (hT : TT T) (hb : b < 24) : Runs mX0_tailsIn 2 0 0 [vR 1, vI ((b : Nat) : Int)] N T v (some (vI (tnN (v 2) (v 6) b))) N T v := by
  refine Runs.of (by decide) (Nat.le_of_ble_eq_true rfl) fun κ C => ?_
  refine M_aload_n (pc := 0) C dX0_tailsIn_0 rfl (by decide) ?_
  refine M_iload_n (pc := 1) C dX0_tailsIn_1 rfl ?_
  refine A_cV (pc := 2) C (x := vI (v 2 b)) (a := 1) (c := 0) (c_X0_kindOf_n hT (b := b) (by omega)) yw_X0_kindOf lk_X0_70 rfl (congrArg Prod.fst (tt_1 hT)) hc_0 rfl dX0_tailsIn_2 rfl (Nat.le_of_ble_eq_true rfl) (by decide) ⟨Nat.le_refl _, Nat.le_refl _⟩ ?_
  refine M_rd (pc := 5) C 2 b (fun (r_2_0 : i32 (v 2 b)) => ?_)
  refine M_iconst (pc := 5) C dX0_tailsIn_5 ?_
  refine M_icmp_eq (pc := 6) C (tgt := 11) (by omega) (by omega) dX0_tailsIn_6 (by decide) (fun h_6 => ?_) (fun h_6 => ?_)
  · refine M_iconst (pc := 11) C dX0_tailsIn_11 ?_
    refine M_istore_n (pc := 12) C dX0_tailsIn_12 (by decide) ?_
    refine M_iconst (pc := 13) C dX0_tailsIn_13 ?_
    refine M_istore_n (pc := 14) C dX0_tailsIn_14 (by decide) ?_
    refine loop_le (P := fun i => M κ N T 15 [some (vR 1), some (vI ((b : Nat) : Int)), some (vI (sumN (fun f => Bi (decide (v 6 f = ((b : Nat) : Int)))) i)), some (vI ((i : Nat) : Int))] [] v 0 0 (QR κ (some (vI (tnN (v 2) (v 6) b))) N T v 0 0)) 10 (fun i hi ih => ?_)
    refine M_iload_n (pc := 15) C dX0_tailsIn_15 rfl ?_
    refine M_bipush (pc := 16) C (by decide) dX0_tailsIn_16 ?_
    refine M_icmp_ge (pc := 18) C (tgt := 45) (by omega) (by omega) dX0_tailsIn_18 (by decide) (fun h_18 => ?_) (fun h_18 => ?_)
    · refine M_iload_n (pc := 45) C dX0_tailsIn_45 rfl ?_
      exact M_iret (pc := 46) C rfl dX0_tailsIn_46 (by unfold tnN; rw [if_pos (by omega), show i = 10 by omega]) rfl
    · refine M_iload_n (pc := 21) C dX0_tailsIn_21 rfl ?_
      refine M_aload_n (pc := 22) C dX0_tailsIn_22 rfl (by decide) ?_
      refine A_getR (pc := 23) C fl_X0_24 rfl (a := 1) (j := 6) rfl (tt_1 hT) (by decide) dX0_tailsIn_23 ?_
      refine M_iload_n (pc := 26) C dX0_tailsIn_26 rfl ?_
      refine A_iald (pc := 27) C (a := 6) (q := i) rfl (tt_6 hT) (by decide) rfl (by omega) dX0_tailsIn_27 (fun (r_27 : i32 (v 6 i)) => ?_)
      refine M_iload_n (pc := 28) C dX0_tailsIn_28 rfl ?_
      refine T_icmp_ne (pc := 29) C (by omega) (by omega) dX0_tailsIn_29 dX0_tailsIn_32 dX0_tailsIn_33 dX0_tailsIn_36 ?_
      refine M_iadd (pc := 37) C dX0_tailsIn_37 ?_
      refine M_istore_n (pc := 38) C dX0_tailsIn_38 (by decide) ?_
      refine M_iinc (pc := 39) C dX0_tailsIn_39 rfl (by decide) ?_
      refine M_goto (pc := 42) C (tgt := 15) dX0_tailsIn_42 (by decide) ?_
      exact M.to (ih (by omega)) (by rw [sumN_s rfl]; rfl) rfl rfl
  · refine M_iconst (pc := 9) C dX0_tailsIn_9 ?_
    exact M_iret (pc := 10) C rfl dX0_tailsIn_10 (by unfold tnN; rw [if_neg (by omega)]) rfl
theorem c_X0_lowestFree {N : Nat} {T : Ty} {v : Ct} (hT : TT T)  : Runs mX0_lowestFree 0 0 0 [vR 1] N T v (some (vI (lfN (v 2)))) N T v := by
  refine Runs.of (by decide) (Nat.le_of_ble_eq_true rfl) fun κ C => ?_
  refine M_iconst (pc := 0) C dX0_lowestFree_0 ?_
  refine M_istore_n (pc := 1) C dX0_lowestFree_1 (by decide) ?_
  refine loop_le (P := fun i => (∀ j, j < i → (fun b => decide (v 2 b = 0)) j = false) → M κ N T 2 [some (vR 1), some (vI ((i : Nat) : Int))] [] v 0 0 (QR κ (some (vI (lfN (v 2)))) N T v 0 0)) 24 (fun i hi ih => ?_) (fun j hj => absurd hj (Nat.not_lt_zero j))
  intro hin
  refine M_iload_n (pc := 2) C dX0_lowestFree_2 rfl ?_
  refine M_bipush (pc := 3) C (by decide) dX0_lowestFree_3 ?_
  refine M_icmp_ge (pc := 5) C (tgt := 25) (by omega) (by omega) dX0_lowestFree_5 (by decide) (fun h_5 => ?_) (fun h_5 => ?_)
  · refine M_iconst (pc := 25) C dX0_lowestFree_25 ?_
    exact M_iret (pc := 26) C rfl dX0_lowestFree_26 (by first | (rw [show lfN (v 2) = i from firstN_at (p := fun b => decide (v 2 b = 0)) hin (decide_eq_true (by omega)) (by omega)]) | (rw [show lfN (v 2) = -1 from firstN_none (p := fun b => decide (v 2 b = 0)) (fun j hj => hin j (by omega))])) rfl
  · refine M_aload_n (pc := 8) C dX0_lowestFree_8 rfl (by decide) ?_
    refine A_getR (pc := 9) C fl_X0_9 rfl (a := 1) (j := 2) rfl (tt_1 hT) (by decide) dX0_lowestFree_9 ?_
    refine M_iload_n (pc := 12) C dX0_lowestFree_12 rfl ?_
    refine A_iald (pc := 13) C (a := 2) (q := i) rfl (tt_2 hT) (by decide) rfl (by omega) dX0_lowestFree_13 (fun (r_13 : i32 (v 2 i)) => ?_)
    refine M_if_ne (pc := 14) C (tgt := 19) (by omega) dX0_lowestFree_14 (by decide) (fun h_14 => ?_) (fun h_14 => ?_)
    · refine M_iinc (pc := 19) C dX0_lowestFree_19 rfl (by decide) ?_
      refine M_goto (pc := 22) C (tgt := 2) dX0_lowestFree_22 (by decide) ?_
      exact M.to (ih (by omega) (fun j hj => by by_cases e : j = i; (rw [e]; exact decide_eq_false (by omega)); exact hin j (by omega))) rfl rfl rfl
    · refine M_iload_n (pc := 17) C dX0_lowestFree_17 rfl ?_
      exact M_iret (pc := 18) C rfl dX0_lowestFree_18 (by first | (rw [show lfN (v 2) = i from firstN_at (p := fun b => decide (v 2 b = 0)) hin (decide_eq_true (by omega)) (by omega)]) | (rw [show lfN (v 2) = -1 from firstN_none (p := fun b => decide (v 2 b = 0)) (fun j hj => hin j (by omega))])) rfl
theorem c_X0_lowestNumber {N : Nat} {T : Ty} {v : Ct} (hT : TT T)  : Runs mX0_lowestNumber 0 0 0 [vR 1] N T v (some (vI (lnN (v 5)))) N T v := by
  refine Runs.of (by decide) (Nat.le_of_ble_eq_true rfl) fun κ C => ?_
  refine M_iconst (pc := 0) C dX0_lowestNumber_0 ?_
  refine M_istore_n (pc := 1) C dX0_lowestNumber_1 (by decide) ?_
  refine loop_le (P := fun i => (∀ j, j < i → (fun f => decide (v 5 f = -1)) j = false) → M κ N T 2 [some (vR 1), some (vI ((i : Nat) : Int))] [] v 0 0 (QR κ (some (vI (lnN (v 5)))) N T v 0 0)) 10 (fun i hi ih => ?_) (fun j hj => absurd hj (Nat.not_lt_zero j))
  intro hin
  refine M_iload_n (pc := 2) C dX0_lowestNumber_2 rfl ?_
  refine M_bipush (pc := 3) C (by decide) dX0_lowestNumber_3 ?_
  refine M_icmp_ge (pc := 5) C (tgt := 26) (by omega) (by omega) dX0_lowestNumber_5 (by decide) (fun h_5 => ?_) (fun h_5 => ?_)
  · refine M_iconst (pc := 26) C dX0_lowestNumber_26 ?_
    exact M_iret (pc := 27) C rfl dX0_lowestNumber_27 (by first | (rw [show lnN (v 5) = i from firstN_at (p := fun f => decide (v 5 f = -1)) hin (decide_eq_true (by omega)) (by omega)]) | (rw [show lnN (v 5) = -1 from firstN_none (p := fun f => decide (v 5 f = -1)) (fun j hj => hin j (by omega))])) rfl
  · refine M_aload_n (pc := 8) C dX0_lowestNumber_8 rfl (by decide) ?_
    refine A_getR (pc := 9) C fl_X0_21 rfl (a := 1) (j := 5) rfl (tt_1 hT) (by decide) dX0_lowestNumber_9 ?_
    refine M_iload_n (pc := 12) C dX0_lowestNumber_12 rfl ?_
    refine A_iald (pc := 13) C (a := 5) (q := i) rfl (tt_5 hT) (by decide) rfl (by omega) dX0_lowestNumber_13 (fun (r_13 : i32 (v 5 i)) => ?_)
    refine M_iconst (pc := 14) C dX0_lowestNumber_14 ?_
    refine M_icmp_ne (pc := 15) C (tgt := 20) (by omega) (by omega) dX0_lowestNumber_15 (by decide) (fun h_15 => ?_) (fun h_15 => ?_)
    · refine M_iinc (pc := 20) C dX0_lowestNumber_20 rfl (by decide) ?_
      refine M_goto (pc := 23) C (tgt := 2) dX0_lowestNumber_23 (by decide) ?_
      exact M.to (ih (by omega) (fun j hj => by by_cases e : j = i; (rw [e]; exact decide_eq_false (by omega)); exact hin j (by omega))) rfl rfl rfl
    · refine M_iload_n (pc := 18) C dX0_lowestNumber_18 rfl ?_
      exact M_iret (pc := 19) C rfl dX0_lowestNumber_19 (by first | (rw [show lnN (v 5) = i from firstN_at (p := fun f => decide (v 5 f = -1)) hin (decide_eq_true (by omega)) (by omega)]) | (rw [show lnN (v 5) = -1 from firstN_none (p := fun f => decide (v 5 f = -1)) (fun j hj => hin j (by omega))])) rfl
theorem c_X0_hasSomething {N : Nat} {T : Ty} {f b : Nat} {v : Ct} (hT : TT T) (hf : f < 10) (hb : b < 24) : Runs mX0_hasSomething 1 0 0 [vR 1, vI ((f : Nat) : Int), vI ((b : Nat) : Int)] N T v (some (vI (Bi (hsB (v 3) (v 5) (v 6) f b)))) N T v := by
  refine Runs.of (by decide) (Nat.le_of_ble_eq_true rfl) fun κ C => ?_
  refine M_aload_n (pc := 0) C dX0_hasSomething_0 rfl (by decide) ?_
  refine M_iload_n (pc := 1) C dX0_hasSomething_1 rfl ?_
  refine A_cV (pc := 2) C (x := vI (Bi (decide (v 5 f ≠ -1)))) (a := 1) (c := 0) (c_X0_exists_n hT (f := f) (by omega)) yw_X0_exists lk_X0_46 rfl (congrArg Prod.fst (tt_1 hT)) hc_0 rfl dX0_hasSomething_2 rfl (Nat.le_of_ble_eq_true rfl) (by decide) ⟨Nat.le_refl _, Nat.le_refl _⟩ ?_
  refine M_rd (pc := 5) C 5 f (fun (r_2_0 : i32 (v 5 f)) => ?_)
  refine M_if_eq (pc := 5) C (tgt := 39) (Bi_i32 _) dX0_hasSomething_5 (by decide) (fun h_5 => ?_) (fun h_5 => ?_)
  · have b_5 := Bid_eq0 h_5
    refine M_iconst (pc := 39) C dX0_hasSomething_39 ?_
    exact M_zret (pc := 40) C rfl (Or.inl rfl) dX0_hasSomething_40 (by unfold hsB; first | (rw [b_5, Bool.false_and]; done) | (rw [decide_eq_false (p := v 5 f ≠ -1) b_5, Bool.false_and] <;> rfl) | (rw [decide_eq_true (p := v 5 f ≠ -1) b_5, decide_eq_true (p := v 3 b = f) (by omega)]; rfl) | (rw [decide_eq_true (p := v 5 f ≠ -1) b_5, decide_eq_false (p := v 3 b = f) (by omega)]; rfl)) rfl
  · have b_5 := Bid_ne0 h_5
    refine M_iload_n (pc := 8) C dX0_hasSomething_8 rfl ?_
    refine A_cS (pc := 9) C (x := vI (Bi (decide (0 ≤ ((b : Nat) : Int) ∧ ((b : Nat) : Int) < 24)))) (c_X7_isBlock hT (b := ((b : Nat) : Int)) (by omega)) yw_X7_isBlock lk_X0_54 rfl dX0_hasSomething_9 rfl (Nat.le_of_ble_eq_true rfl) (by decide) ⟨Nat.le_refl _, Nat.le_refl _⟩ ?_
    refine M_if_eq (pc := 12) C (tgt := 39) (Bi_i32 _) dX0_hasSomething_12 (by decide) (fun h_12 => ?_) (fun h_12 => ?_)
    · have b_12 := Bid_eq0 h_12
      exfalso
      omega
    · have b_12 := Bid_ne0 h_12
      refine M_aload_n (pc := 15) C dX0_hasSomething_15 rfl (by decide) ?_
      refine A_getR (pc := 16) C fl_X0_15 rfl (a := 1) (j := 3) rfl (tt_1 hT) (by decide) dX0_hasSomething_16 ?_
      refine M_iload_n (pc := 19) C dX0_hasSomething_19 rfl ?_
      refine A_iald (pc := 20) C (a := 3) (q := b) rfl (tt_3 hT) (by decide) rfl (by omega) dX0_hasSomething_20 (fun (r_20 : i32 (v 3 b)) => ?_)
      refine M_iload_n (pc := 21) C dX0_hasSomething_21 rfl ?_
      refine M_icmp_eq (pc := 22) C (tgt := 35) (by omega) (by omega) dX0_hasSomething_22 (by decide) (fun h_22 => ?_) (fun h_22 => ?_)
      · refine M_iconst (pc := 35) C dX0_hasSomething_35 ?_
        refine M_goto (pc := 36) C (tgt := 40) dX0_hasSomething_36 (by decide) ?_
        exact M_zret (pc := 40) C rfl (Or.inr rfl) dX0_hasSomething_40 (by unfold hsB; first | (rw [b_5, Bool.false_and]; done) | (rw [decide_eq_false (p := v 5 f ≠ -1) b_5, Bool.false_and] <;> rfl) | (rw [decide_eq_true (p := v 5 f ≠ -1) b_5, decide_eq_true (p := v 3 b = f) (by omega)]; rfl) | (rw [decide_eq_true (p := v 5 f ≠ -1) b_5, decide_eq_false (p := v 3 b = f) (by omega)]; rfl)) rfl
      · refine M_aload_n (pc := 25) C dX0_hasSomething_25 rfl (by decide) ?_
        refine A_getR (pc := 26) C fl_X0_24 rfl (a := 1) (j := 6) rfl (tt_1 hT) (by decide) dX0_hasSomething_26 ?_
        refine M_iload_n (pc := 29) C dX0_hasSomething_29 rfl ?_
        refine A_iald (pc := 30) C (a := 6) (q := f) rfl (tt_6 hT) (by decide) rfl (by omega) dX0_hasSomething_30 (fun (r_30 : i32 (v 6 f)) => ?_)
        refine M_iload_n (pc := 31) C dX0_hasSomething_31 rfl ?_
        refine T_icmp_ne (pc := 32) C (by omega) (by omega) dX0_hasSomething_32 dX0_hasSomething_35 dX0_hasSomething_36 dX0_hasSomething_39 ?_
        exact M_zret (pc := 40) C rfl (Bi_01 _) dX0_hasSomething_40 (by unfold hsB; first | (rw [b_5, Bool.false_and]; done) | (rw [decide_eq_false (p := v 5 f ≠ -1) b_5, Bool.false_and] <;> rfl) | (rw [decide_eq_true (p := v 5 f ≠ -1) b_5, decide_eq_true (p := v 3 b = f) (by omega)]; rfl) | (rw [decide_eq_true (p := v 5 f ≠ -1) b_5, decide_eq_false (p := v 3 b = f) (by omega)]; rfl)) rfl
theorem c_X0_takesPacking {N : Nat} {T : Ty} {b : Nat} {v : Ct} (hT : TT T) (hb : b < 24) : Runs mX0_takesPacking 2 0 0 [vR 1, vI ((b : Nat) : Int)] N T v (some (vI (Bi (tpB (v 2) (v 6) (v 8) b)))) N T v := by
  refine Runs.of (by decide) (Nat.le_of_ble_eq_true rfl) fun κ C => ?_
  refine M_iconst (pc := 0) C dX0_takesPacking_0 ?_
  refine M_istore_n (pc := 1) C dX0_takesPacking_1 (by decide) ?_
  refine loop_le (P := fun i => (∀ j, j < i → (fun f => decide (v 8 f = 1) && decide (v 6 f = ((b : Nat) : Int))) j = false) → M κ N T 2 [some (vR 1), some (vI ((b : Nat) : Int)), some (vI ((i : Nat) : Int))] [] v 0 0 (QR κ (some (vI (Bi (tpB (v 2) (v 6) (v 8) b)))) N T v 0 0)) 10 (fun i hi ih => ?_) (fun j hj => absurd hj (Nat.not_lt_zero j))
  intro hin
  refine M_iload_n (pc := 2) C dX0_takesPacking_2 rfl ?_
  refine M_bipush (pc := 3) C (by decide) dX0_takesPacking_3 ?_
  refine M_icmp_ge (pc := 5) C (tgt := 36) (by omega) (by omega) dX0_takesPacking_5 (by decide) (fun h_5 => ?_) (fun h_5 => ?_)
  · refine M_aload_n (pc := 36) C dX0_takesPacking_36 rfl (by decide) ?_
    refine M_iload_n (pc := 37) C dX0_takesPacking_37 rfl ?_
    refine A_cV (pc := 38) C (x := vI (v 2 b)) (a := 1) (c := 0) (c_X0_kindOf_n hT (b := b) (by omega)) yw_X0_kindOf lk_X0_70 rfl (congrArg Prod.fst (tt_1 hT)) hc_0 rfl dX0_takesPacking_38 rfl (Nat.le_of_ble_eq_true rfl) (by decide) ⟨Nat.le_refl _, Nat.le_refl _⟩ ?_
    refine M_rd (pc := 41) C 2 b (fun (r_38_0 : i32 (v 2 b)) => ?_)
    refine M_iconst (pc := 41) C dX0_takesPacking_41 ?_
    refine T_icmp_ne (pc := 42) C (by omega) (by omega) dX0_takesPacking_42 dX0_takesPacking_45 dX0_takesPacking_46 dX0_takesPacking_49 ?_
    exact M_zret (pc := 50) C rfl (Bi_01 _) dX0_takesPacking_50 (by unfold tpB; rw [orB_f (p := (fun f => decide (v 8 f = 1) && decide (v 6 f = ((b : Nat) : Int)))) (fun j hj => hin j (by omega))]; rfl) rfl
  · refine M_aload_n (pc := 8) C dX0_takesPacking_8 rfl (by decide) ?_
    refine A_getR (pc := 9) C fl_X0_30 rfl (a := 1) (j := 8) rfl (tt_1 hT) (by decide) dX0_takesPacking_9 ?_
    refine M_iload_n (pc := 12) C dX0_takesPacking_12 rfl ?_
    refine A_iald (pc := 13) C (a := 8) (q := i) rfl (tt_8 hT) (by decide) rfl (by omega) dX0_takesPacking_13 (fun (r_13 : i32 (v 8 i)) => ?_)
    refine M_iconst (pc := 14) C dX0_takesPacking_14 ?_
    refine M_icmp_ne (pc := 15) C (tgt := 30) (by omega) (by omega) dX0_takesPacking_15 (by decide) (fun h_15 => ?_) (fun h_15 => ?_)
    · refine M_iinc (pc := 30) C dX0_takesPacking_30 rfl (by decide) ?_
      refine M_goto (pc := 33) C (tgt := 2) dX0_takesPacking_33 (by decide) ?_
      have hq : (decide (v 8 i = 1) && decide (v 6 i = ((b : Nat) : Int))) = false := by first | (rw [decide_eq_false (p := v 8 i = 1) (by omega), Bool.false_and]; done) | (rw [decide_eq_false (p := v 6 i = ((b : Nat) : Int)) (by omega), Bool.and_false]; done)
      exact M.to (ih (by omega) (fun j hj => if e : j = i then (by rw [e]; exact hq) else hin j (by omega))) rfl rfl rfl
    · refine M_aload_n (pc := 18) C dX0_takesPacking_18 rfl (by decide) ?_
      refine A_getR (pc := 19) C fl_X0_24 rfl (a := 1) (j := 6) rfl (tt_1 hT) (by decide) dX0_takesPacking_19 ?_
      refine M_iload_n (pc := 22) C dX0_takesPacking_22 rfl ?_
      refine A_iald (pc := 23) C (a := 6) (q := i) rfl (tt_6 hT) (by decide) rfl (by omega) dX0_takesPacking_23 (fun (r_23 : i32 (v 6 i)) => ?_)
      refine M_iload_n (pc := 24) C dX0_takesPacking_24 rfl ?_
      refine M_icmp_ne (pc := 25) C (tgt := 30) (by omega) (by omega) dX0_takesPacking_25 (by decide) (fun h_25 => ?_) (fun h_25 => ?_)
      · refine M_iinc (pc := 30) C dX0_takesPacking_30 rfl (by decide) ?_
        refine M_goto (pc := 33) C (tgt := 2) dX0_takesPacking_33 (by decide) ?_
        have hq : (decide (v 8 i = 1) && decide (v 6 i = ((b : Nat) : Int))) = false := by first | (rw [decide_eq_false (p := v 8 i = 1) (by omega), Bool.false_and]; done) | (rw [decide_eq_false (p := v 6 i = ((b : Nat) : Int)) (by omega), Bool.and_false]; done)
        exact M.to (ih (by omega) (fun j hj => if e : j = i then (by rw [e]; exact hq) else hin j (by omega))) rfl rfl rfl
      · refine M_iconst (pc := 28) C dX0_takesPacking_28 ?_
        exact M_zret (pc := 29) C rfl (Or.inl rfl) dX0_takesPacking_29 (by unfold tpB; rw [orB_t (p := (fun f => decide (v 8 f = 1) && decide (v 6 f = ((b : Nat) : Int)))) (i := i) (by omega) (by show (decide (v 8 i = 1) && decide (v 6 i = ((b : Nat) : Int))) = true; rw [decide_eq_true (p := v 8 i = 1) (by omega), decide_eq_true (p := v 6 i = ((b : Nat) : Int)) (by omega)]; rfl)]; rfl) rfl
theorem c_X0_soundFilesIn {N : Nat} {T : Ty} {b : Nat} {v : Ct} (hT : TT T) (hb : b < 24) : Runs mX0_soundFilesIn 2 0 0 [vR 1, vI ((b : Nat) : Int)] N T v (some (vI (sumN (fun f => Bi (hsB (v 3) (v 5) (v 6) f b && decide (v 8 f = 0))) 10))) N T v := by
  refine Runs.of (by decide) (Nat.le_of_ble_eq_true rfl) fun κ C => ?_
  refine M_iconst (pc := 0) C dX0_soundFilesIn_0 ?_
  refine M_istore_n (pc := 1) C dX0_soundFilesIn_1 (by decide) ?_
  refine M_iconst (pc := 2) C dX0_soundFilesIn_2 ?_
  refine M_istore_n (pc := 3) C dX0_soundFilesIn_3 (by decide) ?_
  refine loop_le (P := fun i => M κ N T 4 [some (vR 1), some (vI ((b : Nat) : Int)), some (vI (sumN (fun f => Bi (hsB (v 3) (v 5) (v 6) f b && decide (v 8 f = 0))) i)), some (vI ((i : Nat) : Int))] [] v 0 0 (QR κ (some (vI (sumN (fun f => Bi (hsB (v 3) (v 5) (v 6) f b && decide (v 8 f = 0))) 10))) N T v 0 0)) 10 (fun i hi ih => ?_)
  have hsb := sumN_bd (g := fun f => Bi (hsB (v 3) (v 5) (v 6) f b && decide (v 8 f = 0))) (a := 1) (by decide) i (fun f _ => Bi_bd _)
  refine M_iload_n (pc := 4) C dX0_soundFilesIn_4 rfl ?_
  refine M_bipush (pc := 5) C (by decide) dX0_soundFilesIn_5 ?_
  refine M_icmp_ge (pc := 7) C (tgt := 42) (by omega) (by omega) dX0_soundFilesIn_7 (by decide) (fun h_7 => ?_) (fun h_7 => ?_)
  · refine M_iload_n (pc := 42) C dX0_soundFilesIn_42 rfl ?_
    exact M_iret (pc := 43) C rfl dX0_soundFilesIn_43 (by rw [show i = 10 by omega]) rfl
  · refine M_iload_n (pc := 10) C dX0_soundFilesIn_10 rfl ?_
    refine M_aload_n (pc := 11) C dX0_soundFilesIn_11 rfl (by decide) ?_
    refine M_iload_n (pc := 12) C dX0_soundFilesIn_12 rfl ?_
    refine M_iload_n (pc := 13) C dX0_soundFilesIn_13 rfl ?_
    refine A_cV (pc := 14) C (x := vI (Bi (hsB (v 3) (v 5) (v 6) i b))) (a := 1) (c := 0) (c_X0_hasSomething hT (f := i) (b := b) (by omega) (by omega)) yw_X0_hasSomething lk_X0_78 rfl (congrArg Prod.fst (tt_1 hT)) hc_0 rfl dX0_soundFilesIn_14 rfl (Nat.le_of_ble_eq_true rfl) (by decide) ⟨Nat.le_refl _, Nat.le_refl _⟩ ?_
    refine M_if_eq (pc := 17) C (tgt := 33) (Bi_i32 _) dX0_soundFilesIn_17 (by decide) (fun h_17 => ?_) (fun h_17 => ?_)
    · have b_17 := Bi_eq0 h_17
      refine M_iconst (pc := 33) C dX0_soundFilesIn_33 ?_
      refine M_iadd (pc := 34) C dX0_soundFilesIn_34 ?_
      refine M_istore_n (pc := 35) C dX0_soundFilesIn_35 (by decide) ?_
      refine M_iinc (pc := 36) C dX0_soundFilesIn_36 rfl (by decide) ?_
      refine M_goto (pc := 39) C (tgt := 4) dX0_soundFilesIn_39 (by decide) ?_
      exact M.to (ih (by omega)) (by first | (rw [sumN_s (x := 0) (by rw [b_17, Bool.false_and]; rfl)]; rfl) | (rw [sumN_s (x := 1) (by rw [b_17, decide_eq_true (by omega)]; rfl)]; rfl) | (rw [sumN_s (x := 0) (by rw [b_17, decide_eq_false (by omega)]; rfl)]; rfl) | (rw [sumN_s (x := Bi (decide (v 8 i = 0))) (by rw [b_17, Bool.true_and])]; rfl)) rfl rfl
    · have b_17 := Bi_ne0 h_17
      refine M_aload_n (pc := 20) C dX0_soundFilesIn_20 rfl (by decide) ?_
      refine A_getR (pc := 21) C fl_X0_30 rfl (a := 1) (j := 8) rfl (tt_1 hT) (by decide) dX0_soundFilesIn_21 ?_
      refine M_iload_n (pc := 24) C dX0_soundFilesIn_24 rfl ?_
      refine A_iald (pc := 25) C (a := 8) (q := i) rfl (tt_8 hT) (by decide) rfl (by omega) dX0_soundFilesIn_25 (fun (r_25 : i32 (v 8 i)) => ?_)
      refine T_if_ne (pc := 26) C (by omega) dX0_soundFilesIn_26 dX0_soundFilesIn_29 dX0_soundFilesIn_30 dX0_soundFilesIn_33 ?_
      refine M_iadd (pc := 34) C dX0_soundFilesIn_34 ?_
      refine M_istore_n (pc := 35) C dX0_soundFilesIn_35 (by decide) ?_
      refine M_iinc (pc := 36) C dX0_soundFilesIn_36 rfl (by decide) ?_
      refine M_goto (pc := 39) C (tgt := 4) dX0_soundFilesIn_39 (by decide) ?_
      exact M.to (ih (by omega)) (by first | (rw [sumN_s (x := 0) (by rw [b_17, Bool.false_and]; rfl)]; rfl) | (rw [sumN_s (x := 1) (by rw [b_17, decide_eq_true (by omega)]; rfl)]; rfl) | (rw [sumN_s (x := 0) (by rw [b_17, decide_eq_false (by omega)]; rfl)]; rfl) | (rw [sumN_s (x := Bi (decide (v 8 i = 0))) (by rw [b_17, Bool.true_and])]; rfl)) rfl rfl
