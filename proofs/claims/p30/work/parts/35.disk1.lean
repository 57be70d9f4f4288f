theorem c_X7_isBlock {N : Nat} {T : Ty} {b : Int} {v : Ct} (hT : TT T) (hb : i32 b) : Runs mX7_isBlock 0 0 0 [vI b] N T v (some (vI (Bi (decide (0 ≤ b ∧ b < 24))))) N T v := by
  refine Runs.of (by decide) (Nat.le_of_ble_eq_true rfl) fun κ C => ?_
  refine M_iload_n (pc := 0) C dX7_isBlock_0 rfl ?_
  refine M_if_lt (pc := 1) C (tgt := 14) (by omega) dX7_isBlock_1 (by decide) (fun h_1 => ?_) (fun h_1 => ?_)
  · refine M_iconst (pc := 14) C dX7_isBlock_14 ?_
    exact M_zret (pc := 15) C rfl (Or.inl rfl) dX7_isBlock_15 (by first | (rw [decide_eq_true (show 0 ≤ b ∧ b < 24 by omega)]; rfl) | (rw [decide_eq_false (show ¬ (0 ≤ b ∧ b < 24) by omega)]; rfl)) rfl
  · refine M_iload_n (pc := 4) C dX7_isBlock_4 rfl ?_
    refine M_bipush (pc := 5) C (by decide) dX7_isBlock_5 ?_
    refine M_icmp_ge (pc := 7) C (tgt := 14) (by omega) (by omega) dX7_isBlock_7 (by decide) (fun h_7 => ?_) (fun h_7 => ?_)
    · refine M_iconst (pc := 14) C dX7_isBlock_14 ?_
      exact M_zret (pc := 15) C rfl (Or.inl rfl) dX7_isBlock_15 (by first | (rw [decide_eq_true (show 0 ≤ b ∧ b < 24 by omega)]; rfl) | (rw [decide_eq_false (show ¬ (0 ≤ b ∧ b < 24) by omega)]; rfl)) rfl
    · refine M_iconst (pc := 10) C dX7_isBlock_10 ?_
      refine M_goto (pc := 11) C (tgt := 15) dX7_isBlock_11 (by decide) ?_
      exact M_zret (pc := 15) C rfl (Or.inr rfl) dX7_isBlock_15 (by first | (rw [decide_eq_true (show 0 ≤ b ∧ b < 24 by omega)]; rfl) | (rw [decide_eq_false (show ¬ (0 ≤ b ∧ b < 24) by omega)]; rfl)) rfl
theorem c_X0_exists_n {N : Nat} {T : Ty} {f : Nat} {v : Ct} (hT : TT T) (hf : f < 10) : Runs mX0_exists 0 0 0 [vR 1, vI ((f : Nat) : Int)] N T v (some (vI (Bi (decide (v 5 f ≠ -1))))) N T v := by
  refine Runs.of (by decide) (Nat.le_of_ble_eq_true rfl) fun κ C => ?_
  refine M_iload_n (pc := 0) C dX0_exists_0 rfl ?_
  refine M_if_lt (pc := 1) C (tgt := 24) (by omega) dX0_exists_1 (by decide) (fun h_1 => ?_) (fun h_1 => ?_)
  · refine M_iconst (pc := 24) C dX0_exists_24 ?_
    exact M_zret (pc := 25) C rfl (Or.inl rfl) dX0_exists_25 (by first | rfl | (rw [decide_eq_false (by omega)]; rfl)) rfl
  · refine M_iload_n (pc := 4) C dX0_exists_4 rfl ?_
    refine M_bipush (pc := 5) C (by decide) dX0_exists_5 ?_
    refine M_icmp_ge (pc := 7) C (tgt := 24) (by omega) (by omega) dX0_exists_7 (by decide) (fun h_7 => ?_) (fun h_7 => ?_)
    · refine M_iconst (pc := 24) C dX0_exists_24 ?_
      exact M_zret (pc := 25) C rfl (Or.inl rfl) dX0_exists_25 (by first | rfl | (rw [decide_eq_false (by omega)]; rfl)) rfl
    · refine M_aload_n (pc := 10) C dX0_exists_10 rfl (by decide) ?_
      refine A_getR (pc := 11) C fl_X0_21 rfl (a := 1) (j := 5) rfl (tt_1 hT) (by decide) dX0_exists_11 ?_
      refine M_iload_n (pc := 14) C dX0_exists_14 rfl ?_
      refine A_iald (pc := 15) C (a := 5) (q := f) rfl (tt_5 hT) (by decide) rfl (by omega) dX0_exists_15 (fun (r_15 : i32 (v 5 f)) => ?_)
      refine M_iconst (pc := 16) C dX0_exists_16 ?_
      refine T_icmp_eq (pc := 17) C (by omega) (by omega) dX0_exists_17 dX0_exists_20 dX0_exists_21 dX0_exists_24 ?_
      exact M_zret (pc := 25) C rfl (Bi_01 _) dX0_exists_25 (by first | rfl | (rw [decide_eq_false (by omega)]; rfl)) rfl
theorem c_X0_isBroken {N : Nat} {T : Ty} {f : Nat} {v : Ct} (hT : TT T) (hf : f < 10) : Runs mX0_isBroken 1 0 0 [vR 1, vI ((f : Nat) : Int)] N T v (some (vI (Bi (decide (v 5 f ≠ -1) && decide (v 8 f = 1))))) N T v := by
  refine Runs.of (by decide) (Nat.le_of_ble_eq_true rfl) fun κ C => ?_
  refine M_aload_n (pc := 0) C dX0_isBroken_0 rfl (by decide) ?_
  refine M_iload_n (pc := 1) C dX0_isBroken_1 rfl ?_
  refine A_cV (pc := 2) C (x := vI (Bi (decide (v 5 f ≠ -1)))) (a := 1) (c := 0) (c_X0_exists_n hT (f := f) (by omega)) yw_X0_exists lk_X0_46 rfl (congrArg Prod.fst (tt_1 hT)) hc_0 rfl dX0_isBroken_2 rfl (Nat.le_of_ble_eq_true rfl) (by decide) ⟨Nat.le_refl _, Nat.le_refl _⟩ ?_
  refine M_rd (pc := 5) C 5 f (fun (r_2_0 : i32 (v 5 f)) => ?_)
  refine M_if_eq (pc := 5) C (tgt := 22) (Bi_i32 _) dX0_isBroken_5 (by decide) (fun h_5 => ?_) (fun h_5 => ?_)
  · have b_5 := Bid_eq0 h_5
    refine M_iconst (pc := 22) C dX0_isBroken_22 ?_
    exact M_zret (pc := 23) C rfl (Or.inl rfl) dX0_isBroken_23 (by first | (rw [decide_eq_true (p := v 5 f ≠ -1) (by omega), Bool.true_and]; done) | (rw [decide_eq_false (p := v 5 f ≠ -1) (by omega)]; rfl) | (rw [decide_eq_false (p := v 8 f = 1) (by omega), Bool.and_false]; rfl)) rfl
  · have b_5 := Bid_ne0 h_5
    refine M_aload_n (pc := 8) C dX0_isBroken_8 rfl (by decide) ?_
    refine A_getR (pc := 9) C fl_X0_30 rfl (a := 1) (j := 8) rfl (tt_1 hT) (by decide) dX0_isBroken_9 ?_
    refine M_iload_n (pc := 12) C dX0_isBroken_12 rfl ?_
    refine A_iald (pc := 13) C (a := 8) (q := f) rfl (tt_8 hT) (by decide) rfl (by omega) dX0_isBroken_13 (fun (r_13 : i32 (v 8 f)) => ?_)
    refine M_iconst (pc := 14) C dX0_isBroken_14 ?_
    refine T_icmp_ne (pc := 15) C (by omega) (by omega) dX0_isBroken_15 dX0_isBroken_18 dX0_isBroken_19 dX0_isBroken_22 ?_
    exact M_zret (pc := 23) C rfl (Bi_01 _) dX0_isBroken_23 (by first | (rw [decide_eq_true (p := v 5 f ≠ -1) (by omega), Bool.true_and]; done) | (rw [decide_eq_false (p := v 5 f ≠ -1) (by omega)]; rfl) | (rw [decide_eq_false (p := v 8 f = 1) (by omega), Bool.and_false]; rfl)) rfl
theorem c_X0_sizeOf {N : Nat} {T : Ty} {f : Nat} {v : Ct} (hT : TT T) (hf : f < 10) : Runs mX0_sizeOf 1 0 0 [vR 1, vI ((f : Nat) : Int)] N T v (some (vI (if v 5 f = -1 then 0 else v 5 f))) N T v := by
  refine Runs.of (by decide) (Nat.le_of_ble_eq_true rfl) fun κ C => ?_
  refine M_aload_n (pc := 0) C dX0_sizeOf_0 rfl (by decide) ?_
  refine M_iload_n (pc := 1) C dX0_sizeOf_1 rfl ?_
  refine A_cV (pc := 2) C (x := vI (Bi (decide (v 5 f ≠ -1)))) (a := 1) (c := 0) (c_X0_exists_n hT (f := f) (by omega)) yw_X0_exists lk_X0_46 rfl (congrArg Prod.fst (tt_1 hT)) hc_0 rfl dX0_sizeOf_2 rfl (Nat.le_of_ble_eq_true rfl) (by decide) ⟨Nat.le_refl _, Nat.le_refl _⟩ ?_
  refine M_rd (pc := 5) C 5 f (fun (r_2_0 : i32 (v 5 f)) => ?_)
  refine M_if_eq (pc := 5) C (tgt := 17) (Bi_i32 _) dX0_sizeOf_5 (by decide) (fun h_5 => ?_) (fun h_5 => ?_)
  · have b_5 := Bid_eq0 h_5
    refine M_iconst (pc := 17) C dX0_sizeOf_17 ?_
    exact M_iret (pc := 18) C rfl dX0_sizeOf_18 (by first | (rw [if_pos (by omega)]; done) | (rw [if_neg (by omega)]; done)) rfl
  · have b_5 := Bid_ne0 h_5
    refine M_aload_n (pc := 8) C dX0_sizeOf_8 rfl (by decide) ?_
    refine A_getR (pc := 9) C fl_X0_21 rfl (a := 1) (j := 5) rfl (tt_1 hT) (by decide) dX0_sizeOf_9 ?_
    refine M_iload_n (pc := 12) C dX0_sizeOf_12 rfl ?_
    refine A_iald (pc := 13) C (a := 5) (q := f) rfl (tt_5 hT) (by decide) rfl (by omega) dX0_sizeOf_13 (fun (r_13 : i32 (v 5 f)) => ?_)
    refine M_goto (pc := 14) C (tgt := 18) dX0_sizeOf_14 (by decide) ?_
    exact M_iret (pc := 18) C rfl dX0_sizeOf_18 (by first | (rw [if_pos (by omega)]; done) | (rw [if_neg (by omega)]; done)) rfl
theorem c_X0_tailCells {N : Nat} {T : Ty} {f : Nat} {v : Ct} (hT : TT T) (hD : DI (v 5) (v 6) (v 7) (v 8)) (hf : f < 10) : Runs mX0_tailCells 2 0 0 [vR 1, vI ((f : Nat) : Int)] N T v (some (vI ((if v 5 f = -1 then 0 else v 5 f) % 16))) N T v := by
  have hf1 := (hD f hf).1
  refine Runs.of (by decide) (Nat.le_of_ble_eq_true rfl) fun κ C => ?_
  refine M_aload_n (pc := 0) C dX0_tailCells_0 rfl (by decide) ?_
  refine M_iload_n (pc := 1) C dX0_tailCells_1 rfl ?_
  refine A_cV (pc := 2) C (x := vI (if v 5 f = -1 then 0 else v 5 f)) (a := 1) (c := 0) (c_X0_sizeOf hT (f := f) (by omega)) yw_X0_sizeOf lk_X0_50 rfl (congrArg Prod.fst (tt_1 hT)) hc_0 rfl dX0_tailCells_2 rfl (Nat.le_of_ble_eq_true rfl) (by decide) ⟨Nat.le_refl _, Nat.le_refl _⟩ ?_
  refine M_bipush (pc := 5) C (by decide) dX0_tailCells_5 ?_
  refine M_irem (pc := 7) C (by omega) (by decide) dX0_tailCells_7 ?_
  exact M_iret (pc := 8) C rfl dX0_tailCells_8 rfl rfl
theorem c_X0_kindOf_n {N : Nat} {T : Ty} {b : Nat} {v : Ct} (hT : TT T) (hb : b < 24) : Runs mX0_kindOf 1 0 0 [vR 1, vI ((b : Nat) : Int)] N T v (some (vI (v 2 b))) N T v := by
  refine Runs.of (by decide) (Nat.le_of_ble_eq_true rfl) fun κ C => ?_
  refine M_iload_n (pc := 0) C dX0_kindOf_0 rfl ?_
  refine A_cS (pc := 1) C (x := vI (Bi (decide (0 ≤ ((b : Nat) : Int) ∧ ((b : Nat) : Int) < 24)))) (c_X7_isBlock hT (b := ((b : Nat) : Int)) (by omega)) yw_X7_isBlock lk_X0_54 rfl dX0_kindOf_1 rfl (Nat.le_of_ble_eq_true rfl) (by decide) ⟨Nat.le_refl _, Nat.le_refl _⟩ ?_
  refine M_if_eq (pc := 4) C (tgt := 16) (Bi_i32 _) dX0_kindOf_4 (by decide) (fun h_4 => ?_) (fun h_4 => ?_)
  · have b_4 := Bid_eq0 h_4
    exfalso
    omega
  · have b_4 := Bid_ne0 h_4
    refine M_aload_n (pc := 7) C dX0_kindOf_7 rfl (by decide) ?_
    refine A_getR (pc := 8) C fl_X0_9 rfl (a := 1) (j := 2) rfl (tt_1 hT) (by decide) dX0_kindOf_8 ?_
    refine M_iload_n (pc := 11) C dX0_kindOf_11 rfl ?_
    refine A_iald (pc := 12) C (a := 2) (q := b) rfl (tt_2 hT) (by decide) rfl (by omega) dX0_kindOf_12 (fun (r_12 : i32 (v 2 b)) => ?_)
    refine M_goto (pc := 13) C (tgt := 17) dX0_kindOf_13 (by decide) ?_
    exact M_iret (pc := 17) C rfl dX0_kindOf_17 rfl rfl
theorem c_X0_files {N : Nat} {T : Ty} {v : Ct} (hT : TT T)  : Runs mX0_files 0 0 0 [vR 1] N T v (some (vI (sumN (fun f => if v 5 f = -1 then 0 else 1) 10))) N T v := by
  refine Runs.of (by decide) (Nat.le_of_ble_eq_true rfl) fun κ C => ?_
  refine M_iconst (pc := 0) C dX0_files_0 ?_
  refine M_istore_n (pc := 1) C dX0_files_1 (by decide) ?_
  refine M_iconst (pc := 2) C dX0_files_2 ?_
  refine M_istore_n (pc := 3) C dX0_files_3 (by decide) ?_
  refine loop_le (P := fun i => M κ N T 4 [some (vR 1), some (vI (sumN (fun f => if v 5 f = -1 then (0 : Int) else 1) i)), some (vI ((i : Nat) : Int))] [] v 0 0 (QR κ (some (vI (sumN (fun f => if v 5 f = -1 then 0 else 1) 10))) N T v 0 0)) 10 (fun i hi ih => ?_)
  have hsb := sumN_bd (g := fun f => if v 5 f = -1 then (0 : Int) else 1) (a := 1) (by decide) i (fun f _ => by split <;> omega)
  refine M_iload_n (pc := 4) C dX0_files_4 rfl ?_
  refine M_bipush (pc := 5) C (by decide) dX0_files_5 ?_
  refine M_icmp_ge (pc := 7) C (tgt := 34) (by omega) (by omega) dX0_files_7 (by decide) (fun h_7 => ?_) (fun h_7 => ?_)
  · refine M_iload_n (pc := 34) C dX0_files_34 rfl ?_
    exact M_iret (pc := 35) C rfl dX0_files_35 (by rw [show i = 10 by omega]) rfl
  · refine M_iload_n (pc := 10) C dX0_files_10 rfl ?_
    refine M_aload_n (pc := 11) C dX0_files_11 rfl (by decide) ?_
    refine A_getR (pc := 12) C fl_X0_21 rfl (a := 1) (j := 5) rfl (tt_1 hT) (by decide) dX0_files_12 ?_
    refine M_iload_n (pc := 15) C dX0_files_15 rfl ?_
    refine A_iald (pc := 16) C (a := 5) (q := i) rfl (tt_5 hT) (by decide) rfl (by omega) dX0_files_16 (fun (r_16 : i32 (v 5 i)) => ?_)
    refine M_iconst (pc := 17) C dX0_files_17 ?_
    refine M_icmp_ne (pc := 18) C (tgt := 25) (by omega) (by omega) dX0_files_18 (by decide) (fun h_18 => ?_) (fun h_18 => ?_)
    · refine M_iconst (pc := 25) C dX0_files_25 ?_
      refine M_iadd (pc := 26) C dX0_files_26 ?_
      refine M_istore_n (pc := 27) C dX0_files_27 (by decide) ?_
      refine M_iinc (pc := 28) C dX0_files_28 rfl (by decide) ?_
      refine M_goto (pc := 31) C (tgt := 4) dX0_files_31 (by decide) ?_
      exact M.to (ih (by omega)) (by first | (rw [sumN_s (if_pos (by omega))]; rfl) | (rw [sumN_s (if_neg (by omega))]; rfl)) rfl rfl
    · refine M_iconst (pc := 21) C dX0_files_21 ?_
      refine M_goto (pc := 22) C (tgt := 26) dX0_files_22 (by decide) ?_
      refine M_iadd (pc := 26) C dX0_files_26 ?_
      refine M_istore_n (pc := 27) C dX0_files_27 (by decide) ?_
      refine M_iinc (pc := 28) C dX0_files_28 rfl (by decide) ?_
      refine M_goto (pc := 31) C (tgt := 4) dX0_files_31 (by decide) ?_
      exact M.to (ih (by omega)) (by first | (rw [sumN_s (if_pos (by omega))]; rfl) | (rw [sumN_s (if_neg (by omega))]; rfl)) rfl rfl
theorem c_X0_brokenFiles {N : Nat} {T : Ty} {v : Ct} (hT : TT T) (hD : DI (v 5) (v 6) (v 7) (v 8)) : Runs mX0_brokenFiles 0 0 0 [vR 1] N T v (some (vI (sumN (v 8) 10))) N T v := by
  refine Runs.of (by decide) (Nat.le_of_ble_eq_true rfl) fun κ C => ?_
  refine M_iconst (pc := 0) C dX0_brokenFiles_0 ?_
  refine M_istore_n (pc := 1) C dX0_brokenFiles_1 (by decide) ?_
  refine M_iconst (pc := 2) C dX0_brokenFiles_2 ?_
  refine M_istore_n (pc := 3) C dX0_brokenFiles_3 (by decide) ?_
  refine loop_le (P := fun i => M κ N T 4 [some (vR 1), some (vI (sumN (v 8) i)), some (vI ((i : Nat) : Int))] [] v 0 0 (QR κ (some (vI (sumN (v 8) 10))) N T v 0 0)) 10 (fun i hi ih => ?_)
  refine M_iload_n (pc := 4) C dX0_brokenFiles_4 rfl ?_
  refine M_bipush (pc := 5) C (by decide) dX0_brokenFiles_5 ?_
  refine M_icmp_ge (pc := 7) C (tgt := 25) (by omega) (by omega) dX0_brokenFiles_7 (by decide) (fun h_7 => ?_) (fun h_7 => ?_)
  · refine M_iload_n (pc := 25) C dX0_brokenFiles_25 rfl ?_
    exact M_iret (pc := 26) C rfl dX0_brokenFiles_26 (by rw [show i = 10 by omega]) rfl
  · refine M_iload_n (pc := 10) C dX0_brokenFiles_10 rfl ?_
    refine M_aload_n (pc := 11) C dX0_brokenFiles_11 rfl (by decide) ?_
    refine A_getR (pc := 12) C fl_X0_30 rfl (a := 1) (j := 8) rfl (tt_1 hT) (by decide) dX0_brokenFiles_12 ?_
    refine M_iload_n (pc := 15) C dX0_brokenFiles_15 rfl ?_
    refine A_iald (pc := 16) C (a := 8) (q := i) rfl (tt_8 hT) (by decide) rfl (by omega) dX0_brokenFiles_16 (fun (r_16 : i32 (v 8 i)) => ?_)
    refine M_iadd (pc := 17) C dX0_brokenFiles_17 ?_
    refine M_istore_n (pc := 18) C dX0_brokenFiles_18 (by decide) ?_
    refine M_iinc (pc := 19) C dX0_brokenFiles_19 rfl (by decide) ?_
    refine M_goto (pc := 22) C (tgt := 4) dX0_brokenFiles_22 (by decide) ?_
    exact M.to (ih (by omega)) (by rw [sumN_s rfl]; rfl) rfl rfl
theorem c_X0_blocksOf {N : Nat} {T : Ty} {x : Int} {v : Ct} (hT : TT T) (hx : i32 x) : Runs mX0_blocksOf 0 0 0 [vR 1, vI x] N T v (some (vI (sumN (fun b => Bi (decide (v 2 b = x))) 24))) N T v := by
  refine Runs.of (by decide) (Nat.le_of_ble_eq_true rfl) fun κ C => ?_
  refine M_iconst (pc := 0) C dX0_blocksOf_0 ?_
  refine M_istore_n (pc := 1) C dX0_blocksOf_1 (by decide) ?_
  refine M_iconst (pc := 2) C dX0_blocksOf_2 ?_
  refine M_istore_n (pc := 3) C dX0_blocksOf_3 (by decide) ?_
  refine loop_le (P := fun i => M κ N T 4 [some (vR 1), some (vI x), some (vI (sumN (fun b => Bi (decide (v 2 b = x))) i)), some (vI ((i : Nat) : Int))] [] v 0 0 (QR κ (some (vI (sumN (fun b => Bi (decide (v 2 b = x))) 24))) N T v 0 0)) 24 (fun i hi ih => ?_)
  refine M_iload_n (pc := 4) C dX0_blocksOf_4 rfl ?_
  refine M_bipush (pc := 5) C (by decide) dX0_blocksOf_5 ?_
  refine M_icmp_ge (pc := 7) C (tgt := 34) (by omega) (by omega) dX0_blocksOf_7 (by decide) (fun h_7 => ?_) (fun h_7 => ?_)
  · refine M_iload_n (pc := 34) C dX0_blocksOf_34 rfl ?_
    exact M_iret (pc := 35) C rfl dX0_blocksOf_35 (by rw [show i = 24 by omega]) rfl
  · refine M_iload_n (pc := 10) C dX0_blocksOf_10 rfl ?_
    refine M_aload_n (pc := 11) C dX0_blocksOf_11 rfl (by decide) ?_
    refine A_getR (pc := 12) C fl_X0_9 rfl (a := 1) (j := 2) rfl (tt_1 hT) (by decide) dX0_blocksOf_12 ?_
    refine M_iload_n (pc := 15) C dX0_blocksOf_15 rfl ?_
    refine A_iald (pc := 16) C (a := 2) (q := i) rfl (tt_2 hT) (by decide) rfl (by omega) dX0_blocksOf_16 (fun (r_16 : i32 (v 2 i)) => ?_)
    refine M_iload_n (pc := 17) C dX0_blocksOf_17 rfl ?_
    refine T_icmp_ne (pc := 18) C (by omega) (by omega) dX0_blocksOf_18 dX0_blocksOf_21 dX0_blocksOf_22 dX0_blocksOf_25 ?_
    refine M_iadd (pc := 26) C dX0_blocksOf_26 ?_
    refine M_istore_n (pc := 27) C dX0_blocksOf_27 (by decide) ?_
    refine M_iinc (pc := 28) C dX0_blocksOf_28 rfl (by decide) ?_
    refine M_goto (pc := 31) C (tgt := 4) dX0_blocksOf_31 (by decide) ?_
    exact M.to (ih (by omega)) (by rw [sumN_s rfl]; rfl) rfl rfl
theorem c_X0_takenCells {N : Nat} {T : Ty} {b lo : Int} {v : Ct} (hT : TT T) (hD : DI (v 5) (v 6) (v 7) (v 8)) (hb : 0 ≤ b) (hb2 : i32 b) (hlo : i32 lo) : Runs mX0_takenCells 0 0 0 [vR 1, vI b, vI lo] N T v (some (vI ((tkA (v 5) (v 6) (v 7) b lo : Nat) : Int))) N T v := by
  refine Runs.of (by decide) (Nat.le_of_ble_eq_true rfl) fun κ C => ?_
  refine M_iconst (pc := 0) C dX0_takenCells_0 ?_
  refine M_istore_n (pc := 1) C dX0_takenCells_1 (by decide) ?_
  refine M_iconst (pc := 2) C dX0_takenCells_2 ?_
  refine M_istore (pc := 3) C dX0_takenCells_3 (by decide) ?_
  refine loop_le (P := fun i => M κ N T 5 [some (vR 1), some (vI b), some (vI lo), some (vI ((tkF (v 5) (v 6) (v 7) b lo i : Nat) : Int)), some (vI ((i : Nat) : Int))] [] v 0 0 (QR κ (some (vI ((tkA (v 5) (v 6) (v 7) b lo : Nat) : Int))) N T v 0 0)) 10 (fun i hi ih => ?_)
  have htk := tkF_bd (lo := lo) hD hb i hi
  refine M_iload (pc := 5) C dX0_takenCells_5 rfl ?_
  refine M_bipush (pc := 7) C (by decide) dX0_takenCells_7 ?_
  refine M_icmp_ge (pc := 9) C (tgt := 60) (by omega) (by omega) dX0_takenCells_9 (by decide) (fun h_9 => ?_) (fun h_9 => ?_)
  · refine M_iload_n (pc := 60) C dX0_takenCells_60 rfl ?_
    exact M_iret (pc := 61) C rfl dX0_takenCells_61 (by rw [show i = 10 by omega]; rfl) rfl
  · refine M_aload_n (pc := 12) C dX0_takenCells_12 rfl (by decide) ?_
    refine A_getR (pc := 13) C fl_X0_24 rfl (a := 1) (j := 6) rfl (tt_1 hT) (by decide) dX0_takenCells_13 ?_
    refine M_iload (pc := 16) C dX0_takenCells_16 rfl ?_
    refine A_iald (pc := 18) C (a := 6) (q := i) rfl (tt_6 hT) (by decide) rfl (by omega) dX0_takenCells_18 (fun (r_18 : i32 (v 6 i)) => ?_)
    refine M_iload_n (pc := 19) C dX0_takenCells_19 rfl ?_
    refine M_icmp_ne (pc := 20) C (tgt := 54) (by omega) (by omega) dX0_takenCells_20 (by decide) (fun h_20 => ?_) (fun h_20 => ?_)
    · refine M_iinc (pc := 54) C dX0_takenCells_54 rfl (by decide) ?_
      refine M_goto (pc := 57) C (tgt := 5) dX0_takenCells_57 (by decide) ?_
      exact M.to (ih (by omega)) (by first | (rw [tkF_t (by omega) (by omega)]; rfl) | (rw [tkF_f (by omega)]; rfl)) rfl rfl
    · obtain ⟨hD1, hD2, hD3, hD4⟩ := (hD i (by omega)).2.1 (by omega)
      have hm := tkM_eq hD2 hD3 hD4
      refine M_iload (pc := 23) C dX0_takenCells_23 rfl ?_
      refine M_iload_n (pc := 25) C dX0_takenCells_25 rfl ?_
      refine M_icmp_eq (pc := 26) C (tgt := 54) (by omega) (by omega) dX0_takenCells_26 (by decide) (fun h_26 => ?_) (fun h_26 => ?_)
      · refine M_iinc (pc := 54) C dX0_takenCells_54 rfl (by decide) ?_
        refine M_goto (pc := 57) C (tgt := 5) dX0_takenCells_57 (by decide) ?_
        exact M.to (ih (by omega)) (by first | (rw [tkF_t (by omega) (by omega)]; rfl) | (rw [tkF_f (by omega)]; rfl)) rfl rfl
      · refine M_iload_n (pc := 29) C dX0_takenCells_29 rfl ?_
        refine M_iconst (pc := 30) C dX0_takenCells_30 ?_
        refine M_aload_n (pc := 31) C dX0_takenCells_31 rfl (by decide) ?_
        refine A_getR (pc := 32) C fl_X0_21 rfl (a := 1) (j := 5) rfl (tt_1 hT) (by decide) dX0_takenCells_32 ?_
        refine M_iload (pc := 35) C dX0_takenCells_35 rfl ?_
        refine A_iald (pc := 37) C (a := 5) (q := i) rfl (tt_5 hT) (by decide) rfl (by omega) dX0_takenCells_37 (fun (r_37 : i32 (v 5 i)) => ?_)
        refine M_bipush (pc := 38) C (by decide) dX0_takenCells_38 ?_
        refine M_irem (pc := 40) C (by omega) (by decide) dX0_takenCells_40 ?_
        refine M_ishl (pc := 41) C (by omega) dX0_takenCells_41 ?_
        refine M_iconst (pc := 42) C dX0_takenCells_42 ?_
        refine M_isub (pc := 43) C dX0_takenCells_43 ?_
        refine M_aload_n (pc := 44) C dX0_takenCells_44 rfl (by decide) ?_
        refine A_getR (pc := 45) C fl_X0_27 rfl (a := 1) (j := 7) rfl (tt_1 hT) (by decide) dX0_takenCells_45 ?_
        refine M_iload (pc := 48) C dX0_takenCells_48 rfl ?_
        refine A_iald (pc := 50) C (a := 7) (q := i) rfl (tt_7 hT) (by decide) rfl (by omega) dX0_takenCells_50 (fun (r_50 : i32 (v 7 i)) => ?_)
        refine M_ishl (pc := 51) C (by omega) dX0_takenCells_51 ?_
        refine M.to (st2 := [vI ((tkM (v 5 i) (v 7 i) : Nat) : Int), vI ((tkF (v 5) (v 6) (v 7) b lo i : Nat) : Int)]) ?_ rfl (by rw [hm.1]) rfl
        refine M_ior (pc := 52) C (by omega) (by omega) dX0_takenCells_52 ?_
        refine M_istore_n (pc := 53) C dX0_takenCells_53 (by decide) ?_
        refine M_iinc (pc := 54) C dX0_takenCells_54 rfl (by decide) ?_
        refine M_goto (pc := 57) C (tgt := 5) dX0_takenCells_57 (by decide) ?_
        exact M.to (ih (by omega)) (by first | (rw [tkF_t (by omega) (by omega)]; rfl) | (rw [tkF_f (by omega)]; rfl)) rfl rfl
theorem c_X0_isTaken {N : Nat} {T : Ty} {t : Int} {c : Nat} {v : Ct} (hT : TT T) (ht : i32 t) (hc : c < 32) : Runs mX0_isTaken 0 0 0 [vI t, vI ((c : Nat) : Int)] N T v (some (vI (Bi (btB t c)))) N T v := by
  refine Runs.of (by decide) (Nat.le_of_ble_eq_true rfl) fun κ C => ?_
  refine M_iload_n (pc := 0) C dX0_isTaken_0 rfl ?_
  refine M_iload_n (pc := 1) C dX0_isTaken_1 rfl ?_
  refine M_ishr (pc := 2) C (by omega) (by omega) dX0_isTaken_2 ?_
  refine M_iconst (pc := 3) C dX0_isTaken_3 ?_
  refine M_imask (pc := 4) C 1 (by decide) (by decide) dX0_isTaken_4 ?_
  refine M_iconst (pc := 5) C dX0_isTaken_5 ?_
  refine T_icmp_ne (pc := 6) C (by omega) (by omega) dX0_isTaken_6 dX0_isTaken_9 dX0_isTaken_10 dX0_isTaken_13 ?_
  exact M_zret (pc := 14) C rfl (Bi_01 _) dX0_isTaken_14 rfl rfl
theorem c_X0_gapFrom {N : Nat} {T : Ty} {t : Int} {c : Nat} {v : Ct} (hT : TT T) (ht : i32 t) (hc : c ≤ 16) : Runs mX0_gapFrom 1 0 0 [vI t, vI ((c : Nat) : Int)] N T v (some (vI ((gapL t c : Nat) : Int))) N T v := by
  refine Runs.of (by decide) (Nat.le_of_ble_eq_true rfl) fun κ C => ?_
  refine M_iconst (pc := 0) C dX0_gapFrom_0 ?_
  refine M_istore_n (pc := 1) C dX0_gapFrom_1 (by decide) ?_
  refine loop_le (P := fun i => (gapL t c = gapLen (btB t) (16 - c - i) (c + i) + i) → M κ N T 2 [some (vI t), some (vI ((c : Nat) : Int)), some (vI ((i : Nat) : Int))] [] v 0 0 (QR κ (some (vI ((gapL t c : Nat) : Int))) N T v 0 0)) (16 - c) (fun i hi ih => ?_) rfl
  intro hin
  refine M_iload_n (pc := 2) C dX0_gapFrom_2 rfl ?_
  refine M_iload_n (pc := 3) C dX0_gapFrom_3 rfl ?_
  refine M_iadd (pc := 4) C dX0_gapFrom_4 ?_
  refine M_bipush (pc := 5) C (by decide) dX0_gapFrom_5 ?_
  refine M_icmp_ge (pc := 7) C (tgt := 26) (by omega) (by omega) dX0_gapFrom_7 (by decide) (fun h_7 => ?_) (fun h_7 => ?_)
  · have hie : 16 - c - i = 0 := by omega
    have hg : gapL t c = i := by rw [hin, hie]; exact Nat.zero_add i
    refine M_iload_n (pc := 26) C dX0_gapFrom_26 rfl ?_
    exact M_iret (pc := 27) C rfl dX0_gapFrom_27 (by rw [hg]) rfl
  · have hie : 16 - c - i = (16 - c - (i + 1)) + 1 := by omega
    refine M_iload_n (pc := 10) C dX0_gapFrom_10 rfl ?_
    refine M_iload_n (pc := 11) C dX0_gapFrom_11 rfl ?_
    refine M_iload_n (pc := 12) C dX0_gapFrom_12 rfl ?_
    refine M_iadd (pc := 13) C dX0_gapFrom_13 ?_
    refine A_cS (pc := 14) C (x := vI (Bi (btB t (c + i)))) (c_X0_isTaken hT (t := t) (c := c + i) (by omega) (by omega)) yw_X0_isTaken lk_X0_82 rfl dX0_gapFrom_14 rfl (Nat.le_of_ble_eq_true rfl) (by decide) ⟨Nat.le_refl _, Nat.le_refl _⟩ ?_
    refine M_if_ne (pc := 17) C (tgt := 26) (Bi_i32 _) dX0_gapFrom_17 (by decide) (fun h_17 => ?_) (fun h_17 => ?_)
    · have b_17 := Bi_ne0 h_17
      have hg : gapL t c = i := by rw [hin, hie]; show (if btB t (c + i) = true then 0 else _) + i = i; rw [if_pos b_17, Nat.zero_add]
      refine M_iload_n (pc := 26) C dX0_gapFrom_26 rfl ?_
      exact M_iret (pc := 27) C rfl dX0_gapFrom_27 (by rw [hg]) rfl
    · have b_17 := Bi_eq0 h_17
      have hin2 : gapL t c = gapLen (btB t) (16 - c - (i + 1)) (c + (i + 1)) + (i + 1) := by rw [hin, hie]; show (if btB t (c + i) = true then 0 else gapLen (btB t) (16 - c - (i + 1)) (c + i + 1) + 1) + i = _; rw [if_neg (by rw [b_17]; decide), Nat.add_assoc c i 1]; omega
      refine M_iinc (pc := 20) C dX0_gapFrom_20 rfl (by decide) ?_
      refine M_goto (pc := 23) C (tgt := 2) dX0_gapFrom_23 (by decide) ?_
      exact M.to (ih (by omega) hin2) rfl rfl rfl
theorem c_X0_longestGap {N : Nat} {T : Ty} {t : Int} {v : Ct} (hT : TT T) (ht : i32 t) : Runs mX0_longestGap 1 0 0 [vI t] N T v (some (vI (((lgN t 16).1 : Nat) : Int))) N T v := by
  refine Runs.of (by decide) (Nat.le_of_ble_eq_true rfl) fun κ C => ?_
  refine M_iconst (pc := 0) C dX0_longestGap_0 ?_
  refine M_istore_n (pc := 1) C dX0_longestGap_1 (by decide) ?_
  refine M_iconst (pc := 2) C dX0_longestGap_2 ?_
  refine M_istore_n (pc := 3) C dX0_longestGap_3 (by decide) ?_
  refine M_iconst (pc := 4) C dX0_longestGap_4 ?_
  refine M_istore_n (pc := 5) C dX0_longestGap_5 (by decide) ?_
  refine loop_le (P := fun i => M κ N T 6 [some (vI t), some (vI (((lgN t i).1 : Nat) : Int)), some (vI (((lgN t i).2 : Nat) : Int)), some (vI ((i : Nat) : Int))] [] v 0 0 (QR κ (some (vI (((lgN t 16).1 : Nat) : Int))) N T v 0 0)) 16 (fun i hi ih => ?_)
  have hlg := lgN_bd t i
  refine M_iload_n (pc := 6) C dX0_longestGap_6 rfl ?_
  refine M_bipush (pc := 7) C (by decide) dX0_longestGap_7 ?_
  refine M_icmp_ge (pc := 9) C (tgt := 40) (by omega) (by omega) dX0_longestGap_9 (by decide) (fun h_9 => ?_) (fun h_9 => ?_)
  · refine M_iload_n (pc := 40) C dX0_longestGap_40 rfl ?_
    exact M_iret (pc := 41) C rfl dX0_longestGap_41 (by rw [show i = 16 by omega]) rfl
  · refine M_iload_n (pc := 12) C dX0_longestGap_12 rfl ?_
    refine M_iload_n (pc := 13) C dX0_longestGap_13 rfl ?_
    refine A_cS (pc := 14) C (x := vI (Bi (btB t i))) (c_X0_isTaken hT (t := t) (c := i) (by omega) (by omega)) yw_X0_isTaken lk_X0_82 rfl dX0_longestGap_14 rfl (Nat.le_of_ble_eq_true rfl) (by decide) ⟨Nat.le_refl _, Nat.le_refl _⟩ ?_
    refine M_if_eq (pc := 17) C (tgt := 24) (Bi_i32 _) dX0_longestGap_17 (by decide) (fun h_17 => ?_) (fun h_17 => ?_)
    · have b_17 := Bi_eq0 h_17
      refine M_iload_n (pc := 24) C dX0_longestGap_24 rfl ?_
      refine M_iconst (pc := 25) C dX0_longestGap_25 ?_
      refine M_iadd (pc := 26) C dX0_longestGap_26 ?_
      refine M_istore_n (pc := 27) C dX0_longestGap_27 (by decide) ?_
      refine M_iload_n (pc := 28) C dX0_longestGap_28 rfl ?_
      refine M_iload_n (pc := 29) C dX0_longestGap_29 rfl ?_
      refine M_max (pc := 30) C (a := ((lgN t i).1)) (b0 := (((lgN t i).2) + 1)) (by omega) (by omega) mx_l dX0_longestGap_30 (by decide) (Nat.le_of_ble_eq_true rfl) ⟨Nat.le_refl _, Nat.le_refl _⟩ mx_s mx_i mx_c ?_
      refine M_istore_n (pc := 33) C dX0_longestGap_33 (by decide) ?_
      refine M_iinc (pc := 34) C dX0_longestGap_34 rfl (by decide) ?_
      refine M_goto (pc := 37) C (tgt := 6) dX0_longestGap_37 (by decide) ?_
      exact M.to (ih (by omega)) (by first | (rw [lgN_t b_17, Nat.max_eq_left (Nat.zero_le _)]; rfl) | (rw [lgN_f b_17]; rfl)) rfl rfl
    · have b_17 := Bi_ne0 h_17
      refine M_iconst (pc := 20) C dX0_longestGap_20 ?_
      refine M_goto (pc := 21) C (tgt := 27) dX0_longestGap_21 (by decide) ?_
      refine M_istore_n (pc := 27) C dX0_longestGap_27 (by decide) ?_
      refine M_iload_n (pc := 28) C dX0_longestGap_28 rfl ?_
      refine M_iload_n (pc := 29) C dX0_longestGap_29 rfl ?_
      refine M_max (pc := 30) C (a := ((lgN t i).1)) (b0 := 0) (by omega) (by omega) mx_l dX0_longestGap_30 (by decide) (Nat.le_of_ble_eq_true rfl) ⟨Nat.le_refl _, Nat.le_refl _⟩ mx_s mx_i mx_c ?_
      refine M_istore_n (pc := 33) C dX0_longestGap_33 (by decide) ?_
      refine M_iinc (pc := 34) C dX0_longestGap_34 rfl (by decide) ?_
      refine M_goto (pc := 37) C (tgt := 6) dX0_longestGap_37 (by decide) ?_
      exact M.to (ih (by omega)) (by first | (rw [lgN_t b_17, Nat.max_eq_left (Nat.zero_le _)]; rfl) | (rw [lgN_f b_17]; rfl)) rfl rfl
