theorem c_X8_isPacked {N : Nat} {T : Ty} {f : Nat} {v : Ct} (hT : TT T) (hI : RI (v 85)) (hf : f < 10) : Runs mX8_isPacked 2 0 0 [vR 84, vI ((f : Nat) : Int)] N T v (some (vI (Bi (isPk (v 85) f)))) N T v := by
  have hf1 := (hI f hf).2.1
  refine Runs.of (by decide) (Nat.le_of_ble_eq_true rfl) fun κ C => ?_
  refine M_aload_n (pc := 0) C dX8_isPacked_0 rfl (by decide) ?_
  refine M_iload_n (pc := 1) C dX8_isPacked_1 rfl ?_
  refine A_cV (pc := 2) C (x := vI (Bi (decide (ro (v 85) f 0 = 1)))) (a := 84) (c := 8) (c_X8_isFile_n hT (f := f) (by omega)) yw_X8_isFile lk_X8_53 rfl (congrArg Prod.fst (tt_84 hT)) hc_8 rfl dX8_isPacked_2 rfl (Nat.le_of_ble_eq_true rfl) (by decide) ⟨Nat.le_refl _, Nat.le_refl _⟩ ?_
  refine M_if_eq (pc := 5) C (tgt := 29) (Bi_i32 _) dX8_isPacked_5 (by decide) (fun h_5 => ?_) (fun h_5 => ?_)
  · have b_5 := Bid_eq0 h_5
    refine M_iconst (pc := 29) C dX8_isPacked_29 ?_
    exact M_zret (pc := 30) C rfl (Or.inl rfl) dX8_isPacked_30 (by first | (rw [isPk_no (by omega)]; rfl) | (rw [isPk_yes (by omega) (by omega)])) rfl
  · have b_5 := Bid_ne0 h_5
    refine M_aload_n (pc := 8) C dX8_isPacked_8 rfl (by decide) ?_
    refine M_iload_n (pc := 9) C dX8_isPacked_9 rfl ?_
    refine M_iconst (pc := 10) C dX8_isPacked_10 ?_
    refine A_cV (pc := 11) C (x := vI (ro (v 85) f 2)) (a := 84) (c := 8) (c_X8_of (f := f) (w := 2) hT (by omega)) yw_X8_of lk_X8_49 rfl (congrArg Prod.fst (tt_84 hT)) hc_8 rfl dX8_isPacked_11 rfl (Nat.le_of_ble_eq_true rfl) (by decide) ⟨Nat.le_refl _, Nat.le_refl _⟩ ?_
    refine M_rd (pc := 14) C 85 (27 + 18 * f + 2) (fun (r_11_0 : i32 (ro (v 85) f 2)) => ?_)
    refine M_if_ne (pc := 14) C (tgt := 29) (by omega) dX8_isPacked_14 (by decide) (fun h_14 => ?_) (fun h_14 => ?_)
    · refine M_iconst (pc := 29) C dX8_isPacked_29 ?_
      exact M_zret (pc := 30) C rfl (Or.inl rfl) dX8_isPacked_30 (by first | (rw [isPk_no (by omega)]; rfl) | (rw [isPk_yes (by omega) (by omega)])) rfl
    · refine M_aload_n (pc := 17) C dX8_isPacked_17 rfl (by decide) ?_
      refine M_iload_n (pc := 18) C dX8_isPacked_18 rfl ?_
      refine A_cV (pc := 19) C (x := vI (ro (v 85) f 1 % 16)) (a := 84) (c := 8) (c_X8_tailOf hT hI (f := f) (by omega)) yw_X8_tailOf lk_X8_57 rfl (congrArg Prod.fst (tt_84 hT)) hc_8 rfl dX8_isPacked_19 rfl (Nat.le_of_ble_eq_true rfl) (by decide) ⟨Nat.le_refl _, Nat.le_refl _⟩ ?_
      refine T_if_le (pc := 22) C (by omega) dX8_isPacked_22 dX8_isPacked_25 dX8_isPacked_26 dX8_isPacked_29 ?_
      exact M_zret (pc := 30) C rfl (Bi_01 _) dX8_isPacked_30 (by first | (rw [isPk_no (by omega)]; rfl) | (rw [isPk_yes (by omega) (by omega)])) rfl
theorem c_X8_holdsBroken {N : Nat} {T : Ty} {b : Int} {v : Ct} (hT : TT T) (hI : RI (v 85)) (hb : i32 b) : Runs mX8_holdsBroken 3 0 0 [vR 84, vI b] N T v (some (vI (Bi (orN (hldB (v 85) b) 10)))) N T v := by
  refine Runs.of (by decide) (Nat.le_of_ble_eq_true rfl) fun κ C => ?_
  refine M_iconst (pc := 0) C dX8_holdsBroken_0 ?_
  refine M_istore_n (pc := 1) C dX8_holdsBroken_1 (by decide) ?_
  refine M_iconst (pc := 2) C dX8_holdsBroken_2 ?_
  refine M_istore_n (pc := 3) C dX8_holdsBroken_3 (by decide) ?_
  refine loop_le (P := fun i => M κ N T 4 [some (vR 84), some (vI b), some (vI (Bi (orN (hldB (v 85) b) i))), some (vI ((i : Nat) : Int))] [] v 0 0 (QR κ (some (vI (Bi (orN (hldB (v 85) b) 10)))) N T v 0 0)) 10 (fun i hi ih => ?_)
  refine M_iload_n (pc := 4) C dX8_holdsBroken_4 rfl ?_
  refine M_bipush (pc := 5) C (by decide) dX8_holdsBroken_5 ?_
  refine M_icmp_ge (pc := 7) C (tgt := 45) (by omega) (by omega) dX8_holdsBroken_7 (by decide) (fun h_7 => ?_) (fun h_7 => ?_)
  · refine M_iload_n (pc := 45) C dX8_holdsBroken_45 rfl ?_
    exact M_zret (pc := 46) C rfl (Bi_01 _) dX8_holdsBroken_46 (by rw [show i = 10 by omega]) rfl
  · refine M_iload_n (pc := 10) C dX8_holdsBroken_10 rfl ?_
    refine M_if_ne (pc := 11) C (tgt := 33) (Bi_i32 _) dX8_holdsBroken_11 (by decide) (fun h_11 => ?_) (fun h_11 => ?_)
    · have b_11 := Bi_ne0 h_11
      refine M_iconst (pc := 33) C dX8_holdsBroken_33 ?_
      refine M_goto (pc := 34) C (tgt := 38) dX8_holdsBroken_34 (by decide) ?_
      refine M_istore_n (pc := 38) C dX8_holdsBroken_38 (by decide) ?_
      refine M_iinc (pc := 39) C dX8_holdsBroken_39 rfl (by decide) ?_
      refine M_goto (pc := 42) C (tgt := 4) dX8_holdsBroken_42 (by decide) ?_
      exact M.to (ih (by omega)) (by first | (rw [orN_t b_11]; rfl) | (rw [orN_f b_11 (hldB_no b_20)]; rfl) | (rw [orN_f b_11 (hldB_yes b_20)]; rfl)) rfl rfl
    · have b_11 := Bi_eq0 h_11
      refine M_aload_n (pc := 14) C dX8_holdsBroken_14 rfl (by decide) ?_
      refine M_iload_n (pc := 15) C dX8_holdsBroken_15 rfl ?_
      refine M_iload_n (pc := 16) C dX8_holdsBroken_16 rfl ?_
      refine A_cV (pc := 17) C (x := vI (Bi (hasT (v 85) i b))) (a := 84) (c := 8) (c_X8_hasTailIn hT hI (f := i) (b := b) (by omega) (by omega)) yw_X8_hasTailIn lk_X8_61 rfl (congrArg Prod.fst (tt_84 hT)) hc_8 rfl dX8_holdsBroken_17 rfl (Nat.le_of_ble_eq_true rfl) (by decide) ⟨Nat.le_refl _, Nat.le_refl _⟩ ?_
      refine M_if_eq (pc := 20) C (tgt := 37) (Bi_i32 _) dX8_holdsBroken_20 (by decide) (fun h_20 => ?_) (fun h_20 => ?_)
      · have b_20 := Bi_eq0 h_20
        refine M_iconst (pc := 37) C dX8_holdsBroken_37 ?_
        refine M_istore_n (pc := 38) C dX8_holdsBroken_38 (by decide) ?_
        refine M_iinc (pc := 39) C dX8_holdsBroken_39 rfl (by decide) ?_
        refine M_goto (pc := 42) C (tgt := 4) dX8_holdsBroken_42 (by decide) ?_
        exact M.to (ih (by omega)) (by first | (rw [orN_t b_11]; rfl) | (rw [orN_f b_11 (hldB_no b_20)]; rfl) | (rw [orN_f b_11 (hldB_yes b_20)]; rfl)) rfl rfl
      · have b_20 := Bi_ne0 h_20
        refine M_aload_n (pc := 23) C dX8_holdsBroken_23 rfl (by decide) ?_
        refine M_iload_n (pc := 24) C dX8_holdsBroken_24 rfl ?_
        refine M_iconst (pc := 25) C dX8_holdsBroken_25 ?_
        refine A_cV (pc := 26) C (x := vI (ro (v 85) i 2)) (a := 84) (c := 8) (c_X8_of (f := i) (w := 2) hT (by omega)) yw_X8_of lk_X8_49 rfl (congrArg Prod.fst (tt_84 hT)) hc_8 rfl dX8_holdsBroken_26 rfl (Nat.le_of_ble_eq_true rfl) (by decide) ⟨Nat.le_refl _, Nat.le_refl _⟩ ?_
        refine M_rd (pc := 29) C 85 (27 + 18 * i + 2) (fun (r_26_0 : i32 (ro (v 85) i 2)) => ?_)
        refine M_iconst (pc := 29) C dX8_holdsBroken_29 ?_
        refine T_icmp_ne (pc := 30) C (by omega) (by omega) dX8_holdsBroken_30 dX8_holdsBroken_33 dX8_holdsBroken_34 dX8_holdsBroken_37 ?_
        refine M_istore_n (pc := 38) C dX8_holdsBroken_38 (by decide) ?_
        refine M_iinc (pc := 39) C dX8_holdsBroken_39 rfl (by decide) ?_
        refine M_goto (pc := 42) C (tgt := 4) dX8_holdsBroken_42 (by decide) ?_
        exact M.to (ih (by omega)) (by first | (rw [orN_t b_11]; rfl) | (rw [orN_f b_11 (hldB_no b_20)]; rfl) | (rw [orN_f b_11 (hldB_yes b_20)]; rfl)) rfl rfl
theorem c_X8_tailCells {N : Nat} {T : Ty} {b : Int} {v : Ct} (hT : TT T) (hI : RI (v 85)) (hb : i32 b) : Runs mX8_tailCells 3 0 0 [vR 84, vI b] N T v (some (vI (tcF (v 85) b))) N T v := by
  refine Runs.of (by decide) (Nat.le_of_ble_eq_true rfl) fun κ C => ?_
  refine M_iconst (pc := 0) C dX8_tailCells_0 ?_
  refine M_istore_n (pc := 1) C dX8_tailCells_1 (by decide) ?_
  refine M_iconst (pc := 2) C dX8_tailCells_2 ?_
  refine M_istore_n (pc := 3) C dX8_tailCells_3 (by decide) ?_
  refine loop_le (P := fun i => M κ N T 4 [some (vR 84), some (vI b), some (vI (sumN (fun f => if hasT (v 85) f b = true then ro (v 85) f 1 % 16 else 0) i)), some (vI ((i : Nat) : Int))] [] v 0 0 (QR κ (some (vI (tcF (v 85) b))) N T v 0 0)) 10 (fun i hi ih => ?_)
  refine M_iload_n (pc := 4) C dX8_tailCells_4 rfl ?_
  refine M_bipush (pc := 5) C (by decide) dX8_tailCells_5 ?_
  refine M_icmp_ge (pc := 7) C (tgt := 37) (by omega) (by omega) dX8_tailCells_7 (by decide) (fun h_7 => ?_) (fun h_7 => ?_)
  · refine M_iload_n (pc := 37) C dX8_tailCells_37 rfl ?_
    exact M_iret (pc := 38) C rfl dX8_tailCells_38 (by rw [show i = 10 by omega]; rfl) rfl
  · refine M_iload_n (pc := 10) C dX8_tailCells_10 rfl ?_
    refine M_aload_n (pc := 11) C dX8_tailCells_11 rfl (by decide) ?_
    refine M_iload_n (pc := 12) C dX8_tailCells_12 rfl ?_
    refine M_iload_n (pc := 13) C dX8_tailCells_13 rfl ?_
    refine A_cV (pc := 14) C (x := vI (Bi (hasT (v 85) i b))) (a := 84) (c := 8) (c_X8_hasTailIn hT hI (f := i) (b := b) (by omega) (by omega)) yw_X8_hasTailIn lk_X8_61 rfl (congrArg Prod.fst (tt_84 hT)) hc_8 rfl dX8_tailCells_14 rfl (Nat.le_of_ble_eq_true rfl) (by decide) ⟨Nat.le_refl _, Nat.le_refl _⟩ ?_
    refine M_if_eq (pc := 17) C (tgt := 28) (Bi_i32 _) dX8_tailCells_17 (by decide) (fun h_17 => ?_) (fun h_17 => ?_)
    · have b_17 := Bi_eq0 h_17
      refine M_iconst (pc := 28) C dX8_tailCells_28 ?_
      refine M_iadd (pc := 29) C dX8_tailCells_29 ?_
      refine M_istore_n (pc := 30) C dX8_tailCells_30 (by decide) ?_
      refine M_iinc (pc := 31) C dX8_tailCells_31 rfl (by decide) ?_
      refine M_goto (pc := 34) C (tgt := 4) dX8_tailCells_34 (by decide) ?_
      exact M.to (ih (by omega)) (by first | (rw [sumN_s (g := (fun f => if hasT (v 85) f b = true then ro (v 85) f 1 % 16 else 0)) (x := ro (v 85) i 1 % 16) (if_pos b_17)]; rfl) | (rw [sumN_s (g := (fun f => if hasT (v 85) f b = true then ro (v 85) f 1 % 16 else 0)) (x := 0) (if_neg (by rw [b_17]; decide))]; rfl)) rfl rfl
    · have b_17 := Bi_ne0 h_17
      refine M_aload_n (pc := 20) C dX8_tailCells_20 rfl (by decide) ?_
      refine M_iload_n (pc := 21) C dX8_tailCells_21 rfl ?_
      refine A_cV (pc := 22) C (x := vI (ro (v 85) i 1 % 16)) (a := 84) (c := 8) (c_X8_tailOf hT hI (f := i) (by omega)) yw_X8_tailOf lk_X8_57 rfl (congrArg Prod.fst (tt_84 hT)) hc_8 rfl dX8_tailCells_22 rfl (Nat.le_of_ble_eq_true rfl) (by decide) ⟨Nat.le_refl _, Nat.le_refl _⟩ ?_
      refine M_goto (pc := 25) C (tgt := 29) dX8_tailCells_25 (by decide) ?_
      refine M_iadd (pc := 29) C dX8_tailCells_29 ?_
      refine M_istore_n (pc := 30) C dX8_tailCells_30 (by decide) ?_
      refine M_iinc (pc := 31) C dX8_tailCells_31 rfl (by decide) ?_
      refine M_goto (pc := 34) C (tgt := 4) dX8_tailCells_34 (by decide) ?_
      exact M.to (ih (by omega)) (by first | (rw [sumN_s (g := (fun f => if hasT (v 85) f b = true then ro (v 85) f 1 % 16 else 0)) (x := ro (v 85) i 1 % 16) (if_pos b_17)]; rfl) | (rw [sumN_s (g := (fun f => if hasT (v 85) f b = true then ro (v 85) f 1 % 16 else 0)) (x := 0) (if_neg (by rw [b_17]; decide))]; rfl)) rfl rfl
theorem c_X8_longestGap {N : Nat} {T : Ty} {b : Nat} {v : Ct} (hT : TT T) (hI : RI (v 85)) (hb : b < 24) : Runs mX8_longestGap 5 0 0 [vR 84, vI ((b : Nat) : Int)] N T v (some (vI ((lgF (v 85) b : Nat) : Int))) N T v := by
  refine Runs.of (by decide) (Nat.le_of_ble_eq_true rfl) fun κ C => ?_
  refine M_iconst (pc := 0) C dX8_longestGap_0 ?_
  refine M_istore_n (pc := 1) C dX8_longestGap_1 (by decide) ?_
  refine M_iconst (pc := 2) C dX8_longestGap_2 ?_
  refine M_istore_n (pc := 3) C dX8_longestGap_3 (by decide) ?_
  refine loop_le (P := fun i => M κ N T 4 [some (vR 84), some (vI ((b : Nat) : Int)), some (vI ((maxN (gapAt (decide (v 85 (3 + b) = 2)) (tkC (v 85) b)) i : Nat) : Int)), some (vI ((i : Nat) : Int))] [] v 0 0 (QR κ (some (vI ((lgF (v 85) b : Nat) : Int))) N T v 0 0)) 16 (fun i hi ih => ?_)
  have hb1 := maxN_bd (g := (gapAt (decide (v 85 (3 + b) = 2)) (tkC (v 85) b))) (a := 16) i (fun j _ => gapAt_le _ _ _); have hb2 := gapAt_le (decide (v 85 (3 + b) = 2)) (tkC (v 85) b) i
  refine M_iload_n (pc := 4) C dX8_longestGap_4 rfl ?_
  refine M_bipush (pc := 5) C (by decide) dX8_longestGap_5 ?_
  refine M_icmp_ge (pc := 7) C (tgt := 37) (by omega) (by omega) dX8_longestGap_7 (by decide) (fun h_7 => ?_) (fun h_7 => ?_)
  · refine M_iload_n (pc := 37) C dX8_longestGap_37 rfl ?_
    exact M_iret (pc := 38) C rfl dX8_longestGap_38 (by rw [show i = 16 by omega]; rfl) rfl
  · refine M_aload_n (pc := 10) C dX8_longestGap_10 rfl (by decide) ?_
    refine M_iload_n (pc := 11) C dX8_longestGap_11 rfl ?_
    refine M_iload_n (pc := 12) C dX8_longestGap_12 rfl ?_
    refine A_cV (pc := 13) C (x := vI ((gapAt (decide ((v 85) (3 + b) = 2)) (tkC (v 85) b) i : Nat) : Int)) (a := 84) (c := 8) (c_X8_gapAt hT hI (b := b) (c := i) (by omega) (by omega)) yw_X8_gapAt lk_X8_68 rfl (congrArg Prod.fst (tt_84 hT)) hc_8 rfl dX8_longestGap_13 rfl (Nat.le_of_ble_eq_true rfl) (by decide) ⟨Nat.le_refl _, Nat.le_refl _⟩ ?_
    refine M_iload_n (pc := 16) C dX8_longestGap_16 rfl ?_
    refine M_icmp_le (pc := 17) C (tgt := 29) (by omega) (by omega) dX8_longestGap_17 (by decide) (fun h_17 => ?_) (fun h_17 => ?_)
    · refine M_iload_n (pc := 29) C dX8_longestGap_29 rfl ?_
      refine M_istore_n (pc := 30) C dX8_longestGap_30 (by decide) ?_
      refine M_iinc (pc := 31) C dX8_longestGap_31 rfl (by decide) ?_
      refine M_goto (pc := 34) C (tgt := 4) dX8_longestGap_34 (by decide) ?_
      exact M.to (ih (by omega)) (by first | (rw [maxN_t (g := (gapAt (decide (v 85 (3 + b) = 2)) (tkC (v 85) b))) (n := i) (by omega)]; rfl) | (rw [maxN_f (g := (gapAt (decide (v 85 (3 + b) = 2)) (tkC (v 85) b))) (n := i) (by omega)]; rfl)) rfl rfl
    · refine M_aload_n (pc := 20) C dX8_longestGap_20 rfl (by decide) ?_
      refine M_iload_n (pc := 21) C dX8_longestGap_21 rfl ?_
      refine M_iload_n (pc := 22) C dX8_longestGap_22 rfl ?_
      refine A_cV (pc := 23) C (x := vI ((gapAt (decide ((v 85) (3 + b) = 2)) (tkC (v 85) b) i : Nat) : Int)) (a := 84) (c := 8) (c_X8_gapAt hT hI (b := b) (c := i) (by omega) (by omega)) yw_X8_gapAt lk_X8_68 rfl (congrArg Prod.fst (tt_84 hT)) hc_8 rfl dX8_longestGap_23 rfl (Nat.le_of_ble_eq_true rfl) (by decide) ⟨Nat.le_refl _, Nat.le_refl _⟩ ?_
      refine M_goto (pc := 26) C (tgt := 30) dX8_longestGap_26 (by decide) ?_
      refine M_istore_n (pc := 30) C dX8_longestGap_30 (by decide) ?_
      refine M_iinc (pc := 31) C dX8_longestGap_31 rfl (by decide) ?_
      refine M_goto (pc := 34) C (tgt := 4) dX8_longestGap_34 (by decide) ?_
      exact M.to (ih (by omega)) (by first | (rw [maxN_t (g := (gapAt (decide (v 85 (3 + b) = 2)) (tkC (v 85) b))) (n := i) (by omega)]; rfl) | (rw [maxN_f (g := (gapAt (decide (v 85 (3 + b) = 2)) (tkC (v 85) b))) (n := i) (by omega)]; rfl)) rfl rfl
theorem c_X8_ownerOf {N : Nat} {T : Ty} {b : Nat} {v : Ct} (hT : TT T) (hI : RI (v 85)) (hb : b < 24) : Runs mX8_ownerOf 4 0 0 [vR 84, vI ((b : Nat) : Int)] N T v (some (vI (ownF (v 85) b))) N T v := by
  refine Runs.of (by decide) (Nat.le_of_ble_eq_true rfl) fun κ C => ?_
  refine M_iconst (pc := 0) C dX8_ownerOf_0 ?_
  refine M_istore_n (pc := 1) C dX8_ownerOf_1 (by decide) ?_
  refine M_bipush (pc := 2) C (by decide) dX8_ownerOf_2 ?_
  refine M_istore_n (pc := 4) C dX8_ownerOf_4 (by decide) ?_
  refine loop_le (P := fun i => M κ N T 5 [some (vR 84), some (vI ((b : Nat) : Int)), some (vI (owN (fun f => decide (v 85 (3 + b) = 1) && hasIn (v 85) f b) i)), some (vI (9 - (i : Int)))] [] v 0 0 (QR κ (some (vI (ownF (v 85) b))) N T v 0 0)) 10 (fun i hi ih => ?_)
  refine M_iload_n (pc := 5) C dX8_ownerOf_5 rfl ?_
  refine M_if_lt (pc := 6) C (tgt := 42) (by omega) dX8_ownerOf_6 (by decide) (fun h_6 => ?_) (fun h_6 => ?_)
  · refine M_iload_n (pc := 42) C dX8_ownerOf_42 rfl ?_
    exact M_iret (pc := 43) C rfl dX8_ownerOf_43 (by rw [show i = 10 by omega]; rfl) rfl
  · refine M_aload_n (pc := 9) C dX8_ownerOf_9 rfl (by decide) ?_
    refine A_getR (pc := 10) C fl_X8_7 rfl (a := 84) (j := 85) rfl (tt_84 hT) rfl dX8_ownerOf_10 ?_
    refine M_iconst (pc := 13) C dX8_ownerOf_13 ?_
    refine M_iload_n (pc := 14) C dX8_ownerOf_14 rfl ?_
    refine M_iadd (pc := 15) C dX8_ownerOf_15 ?_
    refine A_iald (pc := 16) C (a := 85) (q := (3 + b)) rfl (tt_85 hT) (by decide) (by omega) (by omega) dX8_ownerOf_16 (fun (r_16 : i32 (v 85 (3 + b))) => ?_)
    refine M_iconst (pc := 17) C dX8_ownerOf_17 ?_
    refine M_icmp_ne (pc := 18) C (tgt := 34) (by omega) (by omega) dX8_ownerOf_18 (by decide) (fun h_18 => ?_) (fun h_18 => ?_)
    · refine M_iload_n (pc := 34) C dX8_ownerOf_34 rfl ?_
      refine M_istore_n (pc := 35) C dX8_ownerOf_35 (by decide) ?_
      refine M_iinc (pc := 36) C dX8_ownerOf_36 rfl (by decide) ?_
      refine M_goto (pc := 39) C (tgt := 5) dX8_ownerOf_39 (by decide) ?_
      exact M.to (ih (by omega)) (by rw [show (9 - (i : Int) + -1) = 9 - ((i + 1 : Nat) : Int) by omega]; first | (rw [owN_f (c := (fun f => decide (v 85 (3 + b) = 1) && hasIn (v 85) f b)) (i := i) (by show (decide _ && _) = false; rw [decide_eq_false h_18, Bool.false_and])]; rfl) | (rw [owN_f (c := (fun f => decide (v 85 (3 + b) = 1) && hasIn (v 85) f b)) (i := i) (by show (decide _ && _) = false; rw [b_27, Bool.and_false])]; rfl) | (rw [owN_t (c := (fun f => decide (v 85 (3 + b) = 1) && hasIn (v 85) f b)) (i := i) (by show (decide _ && _) = true; rw [decide_eq_true h_18, b_27]; rfl)]; rfl)) rfl rfl
    · refine M_aload_n (pc := 21) C dX8_ownerOf_21 rfl (by decide) ?_
      refine M_iload_n (pc := 22) C dX8_ownerOf_22 rfl ?_
      refine M_iload_n (pc := 23) C dX8_ownerOf_23 rfl ?_
      have hc24 : Runs mX8_hasIn 3 0 0 [vR 84, vI (9 - (i : Int)), vI ((b : Nat) : Int)] N T v (some (vI (Bi (hasIn (v 85) (9 - i) ((b : Nat) : Int))))) N T v := by rw [show (9 - (i : Int)) = ((9 - i : Nat) : Int) by omega]; exact c_X8_hasIn hT hI (f := 9 - i) (b := (b : Int)) (by omega) (by omega)
      refine A_cV (pc := 24) C (x := vI (Bi (hasIn (v 85) (9 - i) ((b : Nat) : Int)))) (a := 84) (c := 8) hc24 yw_X8_hasIn lk_X8_143 rfl (congrArg Prod.fst (tt_84 hT)) hc_8 rfl dX8_ownerOf_24 rfl (Nat.le_of_ble_eq_true rfl) (by decide) ⟨Nat.le_refl _, Nat.le_refl _⟩ ?_
      refine M_if_eq (pc := 27) C (tgt := 34) (Bi_i32 _) dX8_ownerOf_27 (by decide) (fun h_27 => ?_) (fun h_27 => ?_)
      · have b_27 := Bi_eq0 h_27
        refine M_iload_n (pc := 34) C dX8_ownerOf_34 rfl ?_
        refine M_istore_n (pc := 35) C dX8_ownerOf_35 (by decide) ?_
        refine M_iinc (pc := 36) C dX8_ownerOf_36 rfl (by decide) ?_
        refine M_goto (pc := 39) C (tgt := 5) dX8_ownerOf_39 (by decide) ?_
        exact M.to (ih (by omega)) (by rw [show (9 - (i : Int) + -1) = 9 - ((i + 1 : Nat) : Int) by omega]; first | (rw [owN_f (c := (fun f => decide (v 85 (3 + b) = 1) && hasIn (v 85) f b)) (i := i) (by show (decide _ && _) = false; rw [decide_eq_false h_18, Bool.false_and])]; rfl) | (rw [owN_f (c := (fun f => decide (v 85 (3 + b) = 1) && hasIn (v 85) f b)) (i := i) (by show (decide _ && _) = false; rw [b_27, Bool.and_false])]; rfl) | (rw [owN_t (c := (fun f => decide (v 85 (3 + b) = 1) && hasIn (v 85) f b)) (i := i) (by show (decide _ && _) = true; rw [decide_eq_true h_18, b_27]; rfl)]; rfl)) rfl rfl
      · have b_27 := Bi_ne0 h_27
        refine M_iload_n (pc := 30) C dX8_ownerOf_30 rfl ?_
        refine M_goto (pc := 31) C (tgt := 35) dX8_ownerOf_31 (by decide) ?_
        refine M_istore_n (pc := 35) C dX8_ownerOf_35 (by decide) ?_
        refine M_iinc (pc := 36) C dX8_ownerOf_36 rfl (by decide) ?_
        refine M_goto (pc := 39) C (tgt := 5) dX8_ownerOf_39 (by decide) ?_
        exact M.to (ih (by omega)) (by rw [show (9 - (i : Int) + -1) = 9 - ((i + 1 : Nat) : Int) by omega]; first | (rw [owN_f (c := (fun f => decide (v 85 (3 + b) = 1) && hasIn (v 85) f b)) (i := i) (by show (decide _ && _) = false; rw [decide_eq_false h_18, Bool.false_and])]; rfl) | (rw [owN_f (c := (fun f => decide (v 85 (3 + b) = 1) && hasIn (v 85) f b)) (i := i) (by show (decide _ && _) = false; rw [b_27, Bool.and_false])]; rfl) | (rw [owN_t (c := (fun f => decide (v 85 (3 + b) = 1) && hasIn (v 85) f b)) (i := i) (by show (decide _ && _) = true; rw [decide_eq_true h_18, b_27]; rfl)]; rfl)) rfl rfl
theorem c_X8_goodCells {N : Nat} {T : Ty} {v : Ct} (hT : TT T) (hI : RI (v 85)) : Runs mX8_goodCells 4 0 0 [vR 84] N T v (some (vI (gcF (v 85)))) N T v := by
  refine Runs.of (by decide) (Nat.le_of_ble_eq_true rfl) fun κ C => ?_
  refine M_bipush (pc := 0) C (by decide) dX8_goodCells_0 ?_
  refine M_aload_n (pc := 2) C dX8_goodCells_2 rfl (by decide) ?_
  refine M_iconst (pc := 3) C dX8_goodCells_3 ?_
  refine A_cV (pc := 4) C (x := vI (cntK (v 85) 1)) (a := 84) (c := 8) (c_X8_blocksThat hT (x := 1) (by omega)) yw_X8_blocksThat lk_X8_146 rfl (congrArg Prod.fst (tt_84 hT)) hc_8 rfl dX8_goodCells_4 rfl (Nat.le_of_ble_eq_true rfl) (by decide) ⟨Nat.le_refl _, Nat.le_refl _⟩ ?_
  refine M_imul (pc := 7) C dX8_goodCells_7 ?_
  refine M_istore_n (pc := 8) C dX8_goodCells_8 (by decide) ?_
  refine M_iconst (pc := 9) C dX8_goodCells_9 ?_
  refine M_istore_n (pc := 10) C dX8_goodCells_10 (by decide) ?_
  refine M.to (L2 := [some (vR 84), some (vI (16 * cntK (v 85) 1 + sumN (gcT (v 85)) 0)), some (vI 0)]) ?_ (by show _ = [some (vR 84), some (vI (16 * cntK (v 85) 1 + 0)), some (vI 0)]; rw [Int.add_zero]; rfl) rfl rfl
  refine loop_le (P := fun i => M κ N T 11 [some (vR 84), some (vI (16 * cntK (v 85) 1 + sumN (gcT (v 85)) i)), some (vI ((i : Nat) : Int))] [] v 0 0 (QR κ (some (vI (gcF (v 85)))) N T v 0 0)) 24 (fun i hi ih => ?_)
  refine M_iload_n (pc := 11) C dX8_goodCells_11 rfl ?_
  refine M_bipush (pc := 12) C (by decide) dX8_goodCells_12 ?_
  refine M_icmp_ge (pc := 14) C (tgt := 47) (by omega) (by omega) dX8_goodCells_14 (by decide) (fun h_14 => ?_) (fun h_14 => ?_)
  · refine M_iload_n (pc := 47) C dX8_goodCells_47 rfl ?_
    exact M_iret (pc := 48) C rfl dX8_goodCells_48 (by rw [show i = 24 by omega]; rfl) rfl
  · refine M_iload_n (pc := 17) C dX8_goodCells_17 rfl ?_
    refine M_aload_n (pc := 18) C dX8_goodCells_18 rfl (by decide) ?_
    refine A_getR (pc := 19) C fl_X8_7 rfl (a := 84) (j := 85) rfl (tt_84 hT) rfl dX8_goodCells_19 ?_
    refine M_iconst (pc := 22) C dX8_goodCells_22 ?_
    refine M_iload_n (pc := 23) C dX8_goodCells_23 rfl ?_
    refine M_iadd (pc := 24) C dX8_goodCells_24 ?_
    refine A_iald (pc := 25) C (a := 85) (q := (3 + i)) rfl (tt_85 hT) (by decide) (by omega) (by omega) dX8_goodCells_25 (fun (r_25 : i32 (v 85 (3 + i))) => ?_)
    refine M_iconst (pc := 26) C dX8_goodCells_26 ?_
    refine M_icmp_ne (pc := 27) C (tgt := 38) (by omega) (by omega) dX8_goodCells_27 (by decide) (fun h_27 => ?_) (fun h_27 => ?_)
    · refine M_iconst (pc := 38) C dX8_goodCells_38 ?_
      refine M_iadd (pc := 39) C dX8_goodCells_39 ?_
      refine M_istore_n (pc := 40) C dX8_goodCells_40 (by decide) ?_
      refine M_iinc (pc := 41) C dX8_goodCells_41 rfl (by decide) ?_
      refine M_goto (pc := 44) C (tgt := 11) dX8_goodCells_44 (by decide) ?_
      exact M.to (ih (by omega)) (by first | (rw [sumN_s (g := gcT (v 85)) (x := tcF (v 85) i) (if_pos h_27), ← Int.add_assoc]; rfl) | (rw [sumN_s (g := gcT (v 85)) (x := 0) (if_neg h_27), ← Int.add_assoc]; rfl)) rfl rfl
    · refine M_aload_n (pc := 30) C dX8_goodCells_30 rfl (by decide) ?_
      refine M_iload_n (pc := 31) C dX8_goodCells_31 rfl ?_
      refine A_cV (pc := 32) C (x := vI (tcF (v 85) ((i : Nat) : Int))) (a := 84) (c := 8) (c_X8_tailCells hT hI (b := ((i : Nat) : Int)) (by omega)) yw_X8_tailCells lk_X8_201 rfl (congrArg Prod.fst (tt_84 hT)) hc_8 rfl dX8_goodCells_32 rfl (Nat.le_of_ble_eq_true rfl) (by decide) ⟨Nat.le_refl _, Nat.le_refl _⟩ ?_
      refine M_goto (pc := 35) C (tgt := 39) dX8_goodCells_35 (by decide) ?_
      refine M_iadd (pc := 39) C dX8_goodCells_39 ?_
      refine M_istore_n (pc := 40) C dX8_goodCells_40 (by decide) ?_
      refine M_iinc (pc := 41) C dX8_goodCells_41 rfl (by decide) ?_
      refine M_goto (pc := 44) C (tgt := 11) dX8_goodCells_44 (by decide) ?_
      exact M.to (ih (by omega)) (by first | (rw [sumN_s (g := gcT (v 85)) (x := tcF (v 85) i) (if_pos h_27), ← Int.add_assoc]; rfl) | (rw [sumN_s (g := gcT (v 85)) (x := 0) (if_neg h_27), ← Int.add_assoc]; rfl)) rfl rfl
theorem c_X8_gapCells {N : Nat} {T : Ty} {v : Ct} (hT : TT T) (hI : RI (v 85)) : Runs mX8_gapCells 4 0 0 [vR 84] N T v (some (vI (sumN (gpT (v 85)) 24))) N T v := by
  refine Runs.of (by decide) (Nat.le_of_ble_eq_true rfl) fun κ C => ?_
  refine M_iconst (pc := 0) C dX8_gapCells_0 ?_
  refine M_istore_n (pc := 1) C dX8_gapCells_1 (by decide) ?_
  refine M_iconst (pc := 2) C dX8_gapCells_2 ?_
  refine M_istore_n (pc := 3) C dX8_gapCells_3 (by decide) ?_
  refine loop_le (P := fun i => M κ N T 4 [some (vR 84), some (vI (sumN (gpT (v 85)) i)), some (vI ((i : Nat) : Int))] [] v 0 0 (QR κ (some (vI (sumN (gpT (v 85)) 24))) N T v 0 0)) 24 (fun i hi ih => ?_)
  refine M_iload_n (pc := 4) C dX8_gapCells_4 rfl ?_
  refine M_bipush (pc := 5) C (by decide) dX8_gapCells_5 ?_
  refine M_icmp_ge (pc := 7) C (tgt := 43) (by omega) (by omega) dX8_gapCells_7 (by decide) (fun h_7 => ?_) (fun h_7 => ?_)
  · refine M_iload_n (pc := 43) C dX8_gapCells_43 rfl ?_
    exact M_iret (pc := 44) C rfl dX8_gapCells_44 (by rw [show i = 24 by omega]) rfl
  · refine M_iload_n (pc := 10) C dX8_gapCells_10 rfl ?_
    refine M_aload_n (pc := 11) C dX8_gapCells_11 rfl (by decide) ?_
    refine A_getR (pc := 12) C fl_X8_7 rfl (a := 84) (j := 85) rfl (tt_84 hT) rfl dX8_gapCells_12 ?_
    refine M_iconst (pc := 15) C dX8_gapCells_15 ?_
    refine M_iload_n (pc := 16) C dX8_gapCells_16 rfl ?_
    refine M_iadd (pc := 17) C dX8_gapCells_17 ?_
    refine A_iald (pc := 18) C (a := 85) (q := (3 + i)) rfl (tt_85 hT) (by decide) (by omega) (by omega) dX8_gapCells_18 (fun (r_18 : i32 (v 85 (3 + i))) => ?_)
    refine M_iconst (pc := 19) C dX8_gapCells_19 ?_
    refine M_icmp_ne (pc := 20) C (tgt := 34) (by omega) (by omega) dX8_gapCells_20 (by decide) (fun h_20 => ?_) (fun h_20 => ?_)
    · refine M_iconst (pc := 34) C dX8_gapCells_34 ?_
      refine M_iadd (pc := 35) C dX8_gapCells_35 ?_
      refine M_istore_n (pc := 36) C dX8_gapCells_36 (by decide) ?_
      refine M_iinc (pc := 37) C dX8_gapCells_37 rfl (by decide) ?_
      refine M_goto (pc := 40) C (tgt := 4) dX8_gapCells_40 (by decide) ?_
      exact M.to (ih (by omega)) (by first | (rw [sumN_s (g := gpT (v 85)) (x := 16 - tcF (v 85) i) (if_pos h_20)]; rfl) | (rw [sumN_s (g := gpT (v 85)) (x := 0) (if_neg h_20)]; rfl)) rfl rfl
    · refine M_bipush (pc := 23) C (by decide) dX8_gapCells_23 ?_
      refine M_aload_n (pc := 25) C dX8_gapCells_25 rfl (by decide) ?_
      refine M_iload_n (pc := 26) C dX8_gapCells_26 rfl ?_
      refine A_cV (pc := 27) C (x := vI (tcF (v 85) ((i : Nat) : Int))) (a := 84) (c := 8) (c_X8_tailCells hT hI (b := ((i : Nat) : Int)) (by omega)) yw_X8_tailCells lk_X8_201 rfl (congrArg Prod.fst (tt_84 hT)) hc_8 rfl dX8_gapCells_27 rfl (Nat.le_of_ble_eq_true rfl) (by decide) ⟨Nat.le_refl _, Nat.le_refl _⟩ ?_
      refine M_isub (pc := 30) C dX8_gapCells_30 ?_
      refine M_goto (pc := 31) C (tgt := 35) dX8_gapCells_31 (by decide) ?_
      refine M_iadd (pc := 35) C dX8_gapCells_35 ?_
      refine M_istore_n (pc := 36) C dX8_gapCells_36 (by decide) ?_
      refine M_iinc (pc := 37) C dX8_gapCells_37 rfl (by decide) ?_
      refine M_goto (pc := 40) C (tgt := 4) dX8_gapCells_40 (by decide) ?_
      exact M.to (ih (by omega)) (by first | (rw [sumN_s (g := gpT (v 85)) (x := 16 - tcF (v 85) i) (if_pos h_20)]; rfl) | (rw [sumN_s (g := gpT (v 85)) (x := 0) (if_neg h_20)]; rfl)) rfl rfl
theorem c_X8_broken {N : Nat} {T : Ty} {v : Ct} (hT : TT T) (hI : RI (v 85)) : Runs mX8_broken 2 0 0 [vR 84] N T v (some (vI (sumN (fun f => Bi (brB (v 85) f)) 10))) N T v := by
  refine Runs.of (by decide) (Nat.le_of_ble_eq_true rfl) fun κ C => ?_
  refine M_iconst (pc := 0) C dX8_broken_0 ?_
  refine M_istore_n (pc := 1) C dX8_broken_1 (by decide) ?_
  refine M_iconst (pc := 2) C dX8_broken_2 ?_
  refine M_istore_n (pc := 3) C dX8_broken_3 (by decide) ?_
  refine loop_le (P := fun i => M κ N T 4 [some (vR 84), some (vI (sumN (fun f => Bi (brB (v 85) f)) i)), some (vI ((i : Nat) : Int))] [] v 0 0 (QR κ (some (vI (sumN (fun f => Bi (brB (v 85) f)) 10))) N T v 0 0)) 10 (fun i hi ih => ?_)
  refine M_iload_n (pc := 4) C dX8_broken_4 rfl ?_
  refine M_bipush (pc := 5) C (by decide) dX8_broken_5 ?_
  refine M_icmp_ge (pc := 7) C (tgt := 42) (by omega) (by omega) dX8_broken_7 (by decide) (fun h_7 => ?_) (fun h_7 => ?_)
  · refine M_iload_n (pc := 42) C dX8_broken_42 rfl ?_
    exact M_iret (pc := 43) C rfl dX8_broken_43 (by rw [show i = 10 by omega]) rfl
  · refine M_iload_n (pc := 10) C dX8_broken_10 rfl ?_
    refine M_aload_n (pc := 11) C dX8_broken_11 rfl (by decide) ?_
    refine M_iload_n (pc := 12) C dX8_broken_12 rfl ?_
    refine A_cV (pc := 13) C (x := vI (Bi (decide (ro (v 85) i 0 = 1)))) (a := 84) (c := 8) (c_X8_isFile_n hT (f := i) (by omega)) yw_X8_isFile lk_X8_53 rfl (congrArg Prod.fst (tt_84 hT)) hc_8 rfl dX8_broken_13 rfl (Nat.le_of_ble_eq_true rfl) (by decide) ⟨Nat.le_refl _, Nat.le_refl _⟩ ?_
    refine M_if_eq (pc := 16) C (tgt := 33) (Bi_i32 _) dX8_broken_16 (by decide) (fun h_16 => ?_) (fun h_16 => ?_)
    · have b_16 := Bid_eq0 h_16
      refine M_iconst (pc := 33) C dX8_broken_33 ?_
      refine M_iadd (pc := 34) C dX8_broken_34 ?_
      refine M_istore_n (pc := 35) C dX8_broken_35 (by decide) ?_
      refine M_iinc (pc := 36) C dX8_broken_36 rfl (by decide) ?_
      refine M_goto (pc := 39) C (tgt := 4) dX8_broken_39 (by decide) ?_
      exact M.to (ih (by omega)) (by first | (rw [sumN_s (x := Bi (decide (ro (v 85) i 2 = 1))) (by show Bi (decide _ && _) = _; rw [decide_eq_true b_16, Bool.true_and])]; rfl) | (rw [sumN_s (x := 0) (by show Bi (decide _ && _) = _; rw [decide_eq_false b_16, Bool.false_and]; rfl)]; rfl)) rfl rfl
    · have b_16 := Bid_ne0 h_16
      refine M_aload_n (pc := 19) C dX8_broken_19 rfl (by decide) ?_
      refine M_iload_n (pc := 20) C dX8_broken_20 rfl ?_
      refine M_iconst (pc := 21) C dX8_broken_21 ?_
      refine A_cV (pc := 22) C (x := vI (ro (v 85) i 2)) (a := 84) (c := 8) (c_X8_of (f := i) (w := 2) hT (by omega)) yw_X8_of lk_X8_49 rfl (congrArg Prod.fst (tt_84 hT)) hc_8 rfl dX8_broken_22 rfl (Nat.le_of_ble_eq_true rfl) (by decide) ⟨Nat.le_refl _, Nat.le_refl _⟩ ?_
      refine M_rd (pc := 25) C 85 (27 + 18 * i + 2) (fun (r_22_0 : i32 (ro (v 85) i 2)) => ?_)
      refine M_iconst (pc := 25) C dX8_broken_25 ?_
      refine T_icmp_ne (pc := 26) C (by omega) (by omega) dX8_broken_26 dX8_broken_29 dX8_broken_30 dX8_broken_33 ?_
      refine M_iadd (pc := 34) C dX8_broken_34 ?_
      refine M_istore_n (pc := 35) C dX8_broken_35 (by decide) ?_
      refine M_iinc (pc := 36) C dX8_broken_36 rfl (by decide) ?_
      refine M_goto (pc := 39) C (tgt := 4) dX8_broken_39 (by decide) ?_
      exact M.to (ih (by omega)) (by first | (rw [sumN_s (x := Bi (decide (ro (v 85) i 2 = 1))) (by show Bi (decide _ && _) = _; rw [decide_eq_true b_16, Bool.true_and])]; rfl) | (rw [sumN_s (x := 0) (by show Bi (decide _ && _) = _; rw [decide_eq_false b_16, Bool.false_and]; rfl)]; rfl)) rfl rfl
theorem c_X8_property {N : Nat} {T : Ty} {f w : Nat} {v : Ct} (hT : TT T) (hI : RI (v 85)) (hf : f < 10) (hw : w < 7) : Runs mX8_property 2 0 0 [vR 84, vI ((f : Nat) : Int), vI ((w : Nat) : Int)] N T v (some (vI (prF (v 85) f w))) N T v := by
  have hf1 := (hI f hf).2.1
  refine Runs.of (by decide) (Nat.le_of_ble_eq_true rfl) fun κ C => ?_
  refine M_iload_n (pc := 0) C dX8_property_0 rfl ?_
  rcases (show w = 0 ∨ w = 1 ∨ w = 2 ∨ w = 3 ∨ w = 4 ∨ w = 5 ∨ w = 6 by omega) with rfl | rfl | rfl | rfl | rfl | rfl | rfl
  · refine M_tableIn (pc := 1) C (x := ((0 : Nat) : Int)) (off := 39) (tgt := 40) (by decide) (by decide) rfl dX8_property_1 (by decide) ?_
    refine M_aload_n (pc := 40) C dX8_property_40 rfl (by decide) ?_
    refine M_iload_n (pc := 41) C dX8_property_41 rfl ?_
    refine M_iconst (pc := 42) C dX8_property_42 ?_
    refine A_cV (pc := 43) C (x := vI (ro (v 85) f 1)) (a := 84) (c := 8) (c_X8_of (f := f) (w := 1) hT (by omega)) yw_X8_of lk_X8_49 rfl (congrArg Prod.fst (tt_84 hT)) hc_8 rfl dX8_property_43 rfl (Nat.le_of_ble_eq_true rfl) (by decide) ⟨Nat.le_refl _, Nat.le_refl _⟩ ?_
    refine M_rd (pc := 46) C 85 (27 + 18 * f + 1) (fun (r_43_0 : i32 (ro (v 85) f 1)) => ?_)
    exact M_iret (pc := 46) C rfl dX8_property_46 (by first | rfl | (show _ = vI (if _ then _ else _); first | (rw [if_pos (by omega)]) | (rw [if_neg (by omega)]))) rfl
  · refine M_tableIn (pc := 1) C (x := ((1 : Nat) : Int)) (off := 46) (tgt := 47) (by decide) (by decide) rfl dX8_property_1 (by decide) ?_
    refine M_aload_n (pc := 47) C dX8_property_47 rfl (by decide) ?_
    refine M_iload_n (pc := 48) C dX8_property_48 rfl ?_
    refine A_cV (pc := 49) C (x := vI (ro (v 85) f 1 / 16)) (a := 84) (c := 8) (c_X8_wholeOf hT hI (f := f) (by omega)) yw_X8_wholeOf lk_X8_93 rfl (congrArg Prod.fst (tt_84 hT)) hc_8 rfl dX8_property_49 rfl (Nat.le_of_ble_eq_true rfl) (by decide) ⟨Nat.le_refl _, Nat.le_refl _⟩ ?_
    exact M_iret (pc := 52) C rfl dX8_property_52 (by first | rfl | (show _ = vI (if _ then _ else _); first | (rw [if_pos (by omega)]) | (rw [if_neg (by omega)]))) rfl
  · refine M_tableIn (pc := 1) C (x := ((2 : Nat) : Int)) (off := 52) (tgt := 53) (by decide) (by decide) rfl dX8_property_1 (by decide) ?_
    refine M_aload_n (pc := 53) C dX8_property_53 rfl (by decide) ?_
    refine M_iload_n (pc := 54) C dX8_property_54 rfl ?_
    refine A_cV (pc := 55) C (x := vI (ro (v 85) f 1 % 16)) (a := 84) (c := 8) (c_X8_tailOf hT hI (f := f) (by omega)) yw_X8_tailOf lk_X8_57 rfl (congrArg Prod.fst (tt_84 hT)) hc_8 rfl dX8_property_55 rfl (Nat.le_of_ble_eq_true rfl) (by decide) ⟨Nat.le_refl _, Nat.le_refl _⟩ ?_
    exact M_iret (pc := 58) C rfl dX8_property_58 (by first | rfl | (show _ = vI (if _ then _ else _); first | (rw [if_pos (by omega)]) | (rw [if_neg (by omega)]))) rfl
  · refine M_tableIn (pc := 1) C (x := ((3 : Nat) : Int)) (off := 58) (tgt := 59) (by decide) (by decide) rfl dX8_property_1 (by decide) ?_
    refine M_aload_n (pc := 59) C dX8_property_59 rfl (by decide) ?_
    refine M_iload_n (pc := 60) C dX8_property_60 rfl ?_
    refine A_cV (pc := 61) C (x := vI (ro (v 85) f 1 % 16)) (a := 84) (c := 8) (c_X8_tailOf hT hI (f := f) (by omega)) yw_X8_tailOf lk_X8_57 rfl (congrArg Prod.fst (tt_84 hT)) hc_8 rfl dX8_property_61 rfl (Nat.le_of_ble_eq_true rfl) (by decide) ⟨Nat.le_refl _, Nat.le_refl _⟩ ?_
    refine M_if_ne (pc := 64) C (tgt := 71) (by omega) dX8_property_64 (by decide) (fun h_64 => ?_) (fun h_64 => ?_)
    · refine M_aload_n (pc := 71) C dX8_property_71 rfl (by decide) ?_
      refine M_iload_n (pc := 72) C dX8_property_72 rfl ?_
      refine M_iconst (pc := 73) C dX8_property_73 ?_
      refine A_cV (pc := 74) C (x := vI (ro (v 85) f 3)) (a := 84) (c := 8) (c_X8_of (f := f) (w := 3) hT (by omega)) yw_X8_of lk_X8_49 rfl (congrArg Prod.fst (tt_84 hT)) hc_8 rfl dX8_property_74 rfl (Nat.le_of_ble_eq_true rfl) (by decide) ⟨Nat.le_refl _, Nat.le_refl _⟩ ?_
      refine M_rd (pc := 77) C 85 (27 + 18 * f + 3) (fun (r_74_0 : i32 (ro (v 85) f 3)) => ?_)
      exact M_iret (pc := 77) C rfl dX8_property_77 (by first | rfl | (show _ = vI (if _ then _ else _); first | (rw [if_pos (by omega)]) | (rw [if_neg (by omega)]))) rfl
    · refine M_iconst (pc := 67) C dX8_property_67 ?_
      refine M_goto (pc := 68) C (tgt := 77) dX8_property_68 (by decide) ?_
      exact M_iret (pc := 77) C rfl dX8_property_77 (by first | rfl | (show _ = vI (if _ then _ else _); first | (rw [if_pos (by omega)]) | (rw [if_neg (by omega)]))) rfl
  · refine M_tableIn (pc := 1) C (x := ((4 : Nat) : Int)) (off := 77) (tgt := 78) (by decide) (by decide) rfl dX8_property_1 (by decide) ?_
    refine M_aload_n (pc := 78) C dX8_property_78 rfl (by decide) ?_
    refine M_iload_n (pc := 79) C dX8_property_79 rfl ?_
    refine A_cV (pc := 80) C (x := vI (ro (v 85) f 1 % 16)) (a := 84) (c := 8) (c_X8_tailOf hT hI (f := f) (by omega)) yw_X8_tailOf lk_X8_57 rfl (congrArg Prod.fst (tt_84 hT)) hc_8 rfl dX8_property_80 rfl (Nat.le_of_ble_eq_true rfl) (by decide) ⟨Nat.le_refl _, Nat.le_refl _⟩ ?_
    refine M_if_ne (pc := 83) C (tgt := 90) (by omega) dX8_property_83 (by decide) (fun h_83 => ?_) (fun h_83 => ?_)
    · refine M_aload_n (pc := 90) C dX8_property_90 rfl (by decide) ?_
      refine M_iload_n (pc := 91) C dX8_property_91 rfl ?_
      refine M_iconst (pc := 92) C dX8_property_92 ?_
      refine A_cV (pc := 93) C (x := vI (ro (v 85) f 4)) (a := 84) (c := 8) (c_X8_of (f := f) (w := 4) hT (by omega)) yw_X8_of lk_X8_49 rfl (congrArg Prod.fst (tt_84 hT)) hc_8 rfl dX8_property_93 rfl (Nat.le_of_ble_eq_true rfl) (by decide) ⟨Nat.le_refl _, Nat.le_refl _⟩ ?_
      refine M_rd (pc := 96) C 85 (27 + 18 * f + 4) (fun (r_93_0 : i32 (ro (v 85) f 4)) => ?_)
      exact M_iret (pc := 96) C rfl dX8_property_96 (by first | rfl | (show _ = vI (if _ then _ else _); first | (rw [if_pos (by omega)]) | (rw [if_neg (by omega)]))) rfl
    · refine M_iconst (pc := 86) C dX8_property_86 ?_
      refine M_goto (pc := 87) C (tgt := 96) dX8_property_87 (by decide) ?_
      exact M_iret (pc := 96) C rfl dX8_property_96 (by first | rfl | (show _ = vI (if _ then _ else _); first | (rw [if_pos (by omega)]) | (rw [if_neg (by omega)]))) rfl
  · refine M_tableIn (pc := 1) C (x := ((5 : Nat) : Int)) (off := 96) (tgt := 97) (by decide) (by decide) rfl dX8_property_1 (by decide) ?_
    refine M_aload_n (pc := 97) C dX8_property_97 rfl (by decide) ?_
    refine M_iload_n (pc := 98) C dX8_property_98 rfl ?_
    refine M_iconst (pc := 99) C dX8_property_99 ?_
    refine A_cV (pc := 100) C (x := vI (ro (v 85) f 2)) (a := 84) (c := 8) (c_X8_of (f := f) (w := 2) hT (by omega)) yw_X8_of lk_X8_49 rfl (congrArg Prod.fst (tt_84 hT)) hc_8 rfl dX8_property_100 rfl (Nat.le_of_ble_eq_true rfl) (by decide) ⟨Nat.le_refl _, Nat.le_refl _⟩ ?_
    refine M_rd (pc := 103) C 85 (27 + 18 * f + 2) (fun (r_100_0 : i32 (ro (v 85) f 2)) => ?_)
    exact M_iret (pc := 103) C rfl dX8_property_103 (by first | rfl | (show _ = vI (if _ then _ else _); first | (rw [if_pos (by omega)]) | (rw [if_neg (by omega)]))) rfl
  · refine M_tableOut (pc := 1) C (x := ((6 : Nat) : Int)) (tgt := 104) (by decide) (by decide) dX8_property_1 (by decide) ?_
    refine M_aload_n (pc := 104) C dX8_property_104 rfl (by decide) ?_
    refine M_iload_n (pc := 105) C dX8_property_105 rfl ?_
    refine M_iconst (pc := 106) C dX8_property_106 ?_
    refine A_cV (pc := 107) C (x := vI (ro (v 85) f 5)) (a := 84) (c := 8) (c_X8_of (f := f) (w := 5) hT (by omega)) yw_X8_of lk_X8_49 rfl (congrArg Prod.fst (tt_84 hT)) hc_8 rfl dX8_property_107 rfl (Nat.le_of_ble_eq_true rfl) (by decide) ⟨Nat.le_refl _, Nat.le_refl _⟩ ?_
    refine M_rd (pc := 110) C 85 (27 + 18 * f + 5) (fun (r_107_0 : i32 (ro (v 85) f 5)) => ?_)
    exact M_iret (pc := 110) C rfl dX8_property_110 (by first | rfl | (show _ = vI (if _ then _ else _); first | (rw [if_pos (by omega)]) | (rw [if_neg (by omega)]))) rfl
theorem c_X8_blockIs {N : Nat} {T : Ty} {b w : Nat} {v : Ct} (hT : TT T) (hI : RI (v 85)) (hb : b < 24) (hw : w < 5) : Runs mX8_blockIs 6 0 0 [vR 84, vI ((b : Nat) : Int), vI ((w : Nat) : Int)] N T v (some (vI (biF (v 85) b w))) N T v := by
  refine Runs.of (by decide) (Nat.le_of_ble_eq_true rfl) fun κ C => ?_
  refine M_aload_n (pc := 0) C dX8_blockIs_0 rfl (by decide) ?_
  refine A_getR (pc := 1) C fl_X8_7 rfl (a := 84) (j := 85) rfl (tt_84 hT) rfl dX8_blockIs_1 ?_
  refine M_iconst (pc := 4) C dX8_blockIs_4 ?_
  refine M_iload_n (pc := 5) C dX8_blockIs_5 rfl ?_
  refine M_iadd (pc := 6) C dX8_blockIs_6 ?_
  refine A_iald (pc := 7) C (a := 85) (q := (3 + b)) rfl (tt_85 hT) (by decide) (by omega) (by omega) dX8_blockIs_7 (fun (r_7 : i32 (v 85 (3 + b))) => ?_)
  refine M_istore_n (pc := 8) C dX8_blockIs_8 (by decide) ?_
  refine M_iload_n (pc := 9) C dX8_blockIs_9 rfl ?_
  rcases (show w = 0 ∨ w = 1 ∨ w = 2 ∨ w = 3 ∨ w = 4 by omega) with rfl | rfl | rfl | rfl | rfl
  · refine M_tableIn (pc := 10) C (x := ((0 : Nat) : Int)) (off := 30) (tgt := 40) (by decide) (by decide) rfl dX8_blockIs_10 (by decide) ?_
    refine M_iload_n (pc := 40) C dX8_blockIs_40 rfl ?_
    exact M_iret (pc := 41) C rfl dX8_blockIs_41 (by first | rfl | (show _ = vI (if _ then _ else _); first | (rw [if_pos (by omega)]) | (rw [if_neg (by omega)]))) rfl
  · refine M_tableIn (pc := 10) C (x := ((1 : Nat) : Int)) (off := 32) (tgt := 42) (by decide) (by decide) rfl dX8_blockIs_10 (by decide) ?_
    refine M_iload_n (pc := 42) C dX8_blockIs_42 rfl ?_
    refine M_iconst (pc := 43) C dX8_blockIs_43 ?_
    refine M_icmp_ne (pc := 44) C (tgt := 51) (by omega) (by omega) dX8_blockIs_44 (by decide) (fun h_44 => ?_) (fun h_44 => ?_)
    · refine M_aload_n (pc := 51) C dX8_blockIs_51 rfl (by decide) ?_
      refine M_iload_n (pc := 52) C dX8_blockIs_52 rfl ?_
      refine A_cV (pc := 53) C (x := vI (sumN (fun f => Bi (hasT (v 85) f ((b : Nat) : Int))) 10)) (a := 84) (c := 8) (c_X8_tailsIn hT hI (b := ((b : Nat) : Int)) (by omega)) yw_X8_tailsIn lk_X8_90 rfl (congrArg Prod.fst (tt_84 hT)) hc_8 rfl dX8_blockIs_53 rfl (Nat.le_of_ble_eq_true rfl) (by decide) ⟨Nat.le_refl _, Nat.le_refl _⟩ ?_
      exact M_iret (pc := 56) C rfl dX8_blockIs_56 (by first | rfl | (show _ = vI (if _ then _ else _); first | (rw [if_pos (by omega)]) | (rw [if_neg (by omega)]))) rfl
    · refine M_iconst (pc := 47) C dX8_blockIs_47 ?_
      refine M_goto (pc := 48) C (tgt := 56) dX8_blockIs_48 (by decide) ?_
      exact M_iret (pc := 56) C rfl dX8_blockIs_56 (by first | rfl | (show _ = vI (if _ then _ else _); first | (rw [if_pos (by omega)]) | (rw [if_neg (by omega)]))) rfl
  · refine M_tableIn (pc := 10) C (x := ((2 : Nat) : Int)) (off := 47) (tgt := 57) (by decide) (by decide) rfl dX8_blockIs_10 (by decide) ?_
    refine M_iload_n (pc := 57) C dX8_blockIs_57 rfl ?_
    refine M_iconst (pc := 58) C dX8_blockIs_58 ?_
    refine M_icmp_ne (pc := 59) C (tgt := 66) (by omega) (by omega) dX8_blockIs_59 (by decide) (fun h_59 => ?_) (fun h_59 => ?_)
    · refine M_aload_n (pc := 66) C dX8_blockIs_66 rfl (by decide) ?_
      refine M_iload_n (pc := 67) C dX8_blockIs_67 rfl ?_
      refine A_cV (pc := 68) C (x := vI (tcF (v 85) ((b : Nat) : Int))) (a := 84) (c := 8) (c_X8_tailCells hT hI (b := ((b : Nat) : Int)) (by omega)) yw_X8_tailCells lk_X8_201 rfl (congrArg Prod.fst (tt_84 hT)) hc_8 rfl dX8_blockIs_68 rfl (Nat.le_of_ble_eq_true rfl) (by decide) ⟨Nat.le_refl _, Nat.le_refl _⟩ ?_
      exact M_iret (pc := 71) C rfl dX8_blockIs_71 (by first | rfl | (show _ = vI (if _ then _ else _); first | (rw [if_pos (by omega)]) | (rw [if_neg (by omega)]))) rfl
    · refine M_iconst (pc := 62) C dX8_blockIs_62 ?_
      refine M_goto (pc := 63) C (tgt := 71) dX8_blockIs_63 (by decide) ?_
      exact M_iret (pc := 71) C rfl dX8_blockIs_71 (by first | rfl | (show _ = vI (if _ then _ else _); first | (rw [if_pos (by omega)]) | (rw [if_neg (by omega)]))) rfl
  · refine M_tableIn (pc := 10) C (x := ((3 : Nat) : Int)) (off := 62) (tgt := 72) (by decide) (by decide) rfl dX8_blockIs_10 (by decide) ?_
    refine M_aload_n (pc := 72) C dX8_blockIs_72 rfl (by decide) ?_
    refine M_iload_n (pc := 73) C dX8_blockIs_73 rfl ?_
    refine A_cV (pc := 74) C (x := vI ((lgF (v 85) b : Nat) : Int)) (a := 84) (c := 8) (c_X8_longestGap hT hI (b := b) (by omega)) yw_X8_longestGap lk_X8_204 rfl (congrArg Prod.fst (tt_84 hT)) hc_8 rfl dX8_blockIs_74 rfl (Nat.le_of_ble_eq_true rfl) (by decide) ⟨Nat.le_refl _, Nat.le_refl _⟩ ?_
    exact M_iret (pc := 77) C rfl dX8_blockIs_77 (by first | rfl | (show _ = vI (if _ then _ else _); first | (rw [if_pos (by omega)]) | (rw [if_neg (by omega)]))) rfl
  · refine M_tableOut (pc := 10) C (x := ((4 : Nat) : Int)) (tgt := 78) (by decide) (by decide) dX8_blockIs_10 (by decide) ?_
    refine M_aload_n (pc := 78) C dX8_blockIs_78 rfl (by decide) ?_
    refine M_iload_n (pc := 79) C dX8_blockIs_79 rfl ?_
    refine A_cV (pc := 80) C (x := vI (ownF (v 85) b)) (a := 84) (c := 8) (c_X8_ownerOf hT hI (b := b) (by omega)) yw_X8_ownerOf lk_X8_207 rfl (congrArg Prod.fst (tt_84 hT)) hc_8 rfl dX8_blockIs_80 rfl (Nat.le_of_ble_eq_true rfl) (by decide) ⟨Nat.le_refl _, Nat.le_refl _⟩ ?_
    exact M_iret (pc := 83) C rfl dX8_blockIs_83 (by first | rfl | (show _ = vI (if _ then _ else _); first | (rw [if_pos (by omega)]) | (rw [if_neg (by omega)]))) rfl
theorem c_X8_counted {N : Nat} {T : Ty} {w : Nat} {v : Ct} (hT : TT T) (hI : RI (v 85)) (hw : w < 12) : Runs mX8_counted 5 0 0 [vR 84, vI ((w : Nat) : Int)] N T v (some (vI (ctF v w))) N T v := by
  refine Runs.of (by decide) (Nat.le_of_ble_eq_true rfl) fun κ C => ?_
  refine M_iload_n (pc := 0) C dX8_counted_0 rfl ?_
  rcases (show w = 0 ∨ w = 1 ∨ w = 2 ∨ w = 3 ∨ w = 4 ∨ w = 5 ∨ w = 6 ∨ w = 7 ∨ w = 8 ∨ w = 9 ∨ w = 10 ∨ w = 11 by omega) with rfl | rfl | rfl | rfl | rfl | rfl | rfl | rfl | rfl | rfl | rfl | rfl
  · refine M_tableIn (pc := 1) C (x := ((0 : Nat) : Int)) (off := 59) (tgt := 60) (by decide) (by decide) rfl dX8_counted_1 (by decide) ?_
    refine M_aload_n (pc := 60) C dX8_counted_60 rfl (by decide) ?_
    refine A_cV (pc := 61) C (x := vI (filF (v 85))) (a := 84) (c := 8) (c_X8_files hT hI) yw_X8_files lk_X8_84 rfl (congrArg Prod.fst (tt_84 hT)) hc_8 rfl dX8_counted_61 rfl (Nat.le_of_ble_eq_true rfl) (by decide) ⟨Nat.le_refl _, Nat.le_refl _⟩ ?_
    exact M_iret (pc := 64) C rfl dX8_counted_64 rfl rfl
  · refine M_tableIn (pc := 1) C (x := ((1 : Nat) : Int)) (off := 64) (tgt := 65) (by decide) (by decide) rfl dX8_counted_1 (by decide) ?_
    refine M_aload_n (pc := 65) C dX8_counted_65 rfl (by decide) ?_
    refine M_iload_n (pc := 66) C dX8_counted_66 rfl ?_
    refine M_iconst (pc := 67) C dX8_counted_67 ?_
    refine M_isub (pc := 68) C dX8_counted_68 ?_
    refine A_cV (pc := 69) C (x := vI (cntK (v 85) (((1 : Nat) : Int) - 1))) (a := 84) (c := 8) (c_X8_blocksThat hT (x := ((1 : Nat) : Int) - 1) (by decide)) yw_X8_blocksThat lk_X8_146 rfl (congrArg Prod.fst (tt_84 hT)) hc_8 rfl dX8_counted_69 rfl (Nat.le_of_ble_eq_true rfl) (by decide) ⟨Nat.le_refl _, Nat.le_refl _⟩ ?_
    exact M_iret (pc := 72) C rfl dX8_counted_72 rfl rfl
  · refine M_tableIn (pc := 1) C (x := ((2 : Nat) : Int)) (off := 64) (tgt := 65) (by decide) (by decide) rfl dX8_counted_1 (by decide) ?_
    refine M_aload_n (pc := 65) C dX8_counted_65 rfl (by decide) ?_
    refine M_iload_n (pc := 66) C dX8_counted_66 rfl ?_
    refine M_iconst (pc := 67) C dX8_counted_67 ?_
    refine M_isub (pc := 68) C dX8_counted_68 ?_
    refine A_cV (pc := 69) C (x := vI (cntK (v 85) (((2 : Nat) : Int) - 1))) (a := 84) (c := 8) (c_X8_blocksThat hT (x := ((2 : Nat) : Int) - 1) (by decide)) yw_X8_blocksThat lk_X8_146 rfl (congrArg Prod.fst (tt_84 hT)) hc_8 rfl dX8_counted_69 rfl (Nat.le_of_ble_eq_true rfl) (by decide) ⟨Nat.le_refl _, Nat.le_refl _⟩ ?_
    exact M_iret (pc := 72) C rfl dX8_counted_72 rfl rfl
  · refine M_tableIn (pc := 1) C (x := ((3 : Nat) : Int)) (off := 64) (tgt := 65) (by decide) (by decide) rfl dX8_counted_1 (by decide) ?_
    refine M_aload_n (pc := 65) C dX8_counted_65 rfl (by decide) ?_
    refine M_iload_n (pc := 66) C dX8_counted_66 rfl ?_
    refine M_iconst (pc := 67) C dX8_counted_67 ?_
    refine M_isub (pc := 68) C dX8_counted_68 ?_
    refine A_cV (pc := 69) C (x := vI (cntK (v 85) (((3 : Nat) : Int) - 1))) (a := 84) (c := 8) (c_X8_blocksThat hT (x := ((3 : Nat) : Int) - 1) (by decide)) yw_X8_blocksThat lk_X8_146 rfl (congrArg Prod.fst (tt_84 hT)) hc_8 rfl dX8_counted_69 rfl (Nat.le_of_ble_eq_true rfl) (by decide) ⟨Nat.le_refl _, Nat.le_refl _⟩ ?_
    exact M_iret (pc := 72) C rfl dX8_counted_72 rfl rfl
  · refine M_tableIn (pc := 1) C (x := ((4 : Nat) : Int)) (off := 64) (tgt := 65) (by decide) (by decide) rfl dX8_counted_1 (by decide) ?_
    refine M_aload_n (pc := 65) C dX8_counted_65 rfl (by decide) ?_
    refine M_iload_n (pc := 66) C dX8_counted_66 rfl ?_
    refine M_iconst (pc := 67) C dX8_counted_67 ?_
    refine M_isub (pc := 68) C dX8_counted_68 ?_
    refine A_cV (pc := 69) C (x := vI (cntK (v 85) (((4 : Nat) : Int) - 1))) (a := 84) (c := 8) (c_X8_blocksThat hT (x := ((4 : Nat) : Int) - 1) (by decide)) yw_X8_blocksThat lk_X8_146 rfl (congrArg Prod.fst (tt_84 hT)) hc_8 rfl dX8_counted_69 rfl (Nat.le_of_ble_eq_true rfl) (by decide) ⟨Nat.le_refl _, Nat.le_refl _⟩ ?_
    exact M_iret (pc := 72) C rfl dX8_counted_72 rfl rfl
  · refine M_tableIn (pc := 1) C (x := ((5 : Nat) : Int)) (off := 72) (tgt := 73) (by decide) (by decide) rfl dX8_counted_1 (by decide) ?_
    refine M_aload_n (pc := 73) C dX8_counted_73 rfl (by decide) ?_
    refine A_cV (pc := 74) C (x := vI (gcF (v 85))) (a := 84) (c := 8) (c_X8_goodCells hT hI) yw_X8_goodCells lk_X8_213 rfl (congrArg Prod.fst (tt_84 hT)) hc_8 rfl dX8_counted_74 rfl (Nat.le_of_ble_eq_true rfl) (by decide) ⟨Nat.le_refl _, Nat.le_refl _⟩ ?_
    exact M_iret (pc := 77) C rfl dX8_counted_77 rfl rfl
  · refine M_tableIn (pc := 1) C (x := ((6 : Nat) : Int)) (off := 77) (tgt := 78) (by decide) (by decide) rfl dX8_counted_1 (by decide) ?_
    refine M_aload_n (pc := 78) C dX8_counted_78 rfl (by decide) ?_
    refine A_cV (pc := 79) C (x := vI (sumN (gpT (v 85)) 24)) (a := 84) (c := 8) (c_X8_gapCells hT hI) yw_X8_gapCells lk_X8_216 rfl (congrArg Prod.fst (tt_84 hT)) hc_8 rfl dX8_counted_79 rfl (Nat.le_of_ble_eq_true rfl) (by decide) ⟨Nat.le_refl _, Nat.le_refl _⟩ ?_
    exact M_iret (pc := 82) C rfl dX8_counted_82 rfl rfl
  · refine M_tableIn (pc := 1) C (x := ((7 : Nat) : Int)) (off := 82) (tgt := 83) (by decide) (by decide) rfl dX8_counted_1 (by decide) ?_
    refine M_aload_n (pc := 83) C dX8_counted_83 rfl (by decide) ?_
    refine A_cV (pc := 84) C (x := vI (sumN (fun f => Bi (brB (v 85) f)) 10)) (a := 84) (c := 8) (c_X8_broken hT hI) yw_X8_broken lk_X8_219 rfl (congrArg Prod.fst (tt_84 hT)) hc_8 rfl dX8_counted_84 rfl (Nat.le_of_ble_eq_true rfl) (by decide) ⟨Nat.le_refl _, Nat.le_refl _⟩ ?_
    exact M_iret (pc := 87) C rfl dX8_counted_87 rfl rfl
  · refine M_tableIn (pc := 1) C (x := ((8 : Nat) : Int)) (off := 87) (tgt := 88) (by decide) (by decide) rfl dX8_counted_1 (by decide) ?_
    refine M_aload_n (pc := 88) C dX8_counted_88 rfl (by decide) ?_
    refine A_getR (pc := 89) C fl_X8_7 rfl (a := 84) (j := 85) rfl (tt_84 hT) rfl dX8_counted_89 ?_
    refine M_iconst (pc := 92) C dX8_counted_92 ?_
    refine A_iald (pc := 93) C (a := 85) (q := 0) rfl (tt_85 hT) (by decide) rfl (by omega) dX8_counted_93 (fun (r_93 : i32 (v 85 0)) => ?_)
    exact M_iret (pc := 94) C rfl dX8_counted_94 rfl rfl
  · refine M_tableIn (pc := 1) C (x := ((9 : Nat) : Int)) (off := 94) (tgt := 95) (by decide) (by decide) rfl dX8_counted_1 (by decide) ?_
    refine M_aload_n (pc := 95) C dX8_counted_95 rfl (by decide) ?_
    refine A_getR (pc := 96) C fl_X8_7 rfl (a := 84) (j := 85) rfl (tt_84 hT) rfl dX8_counted_96 ?_
    refine M_iconst (pc := 99) C dX8_counted_99 ?_
    refine A_iald (pc := 100) C (a := 85) (q := 1) rfl (tt_85 hT) (by decide) rfl (by omega) dX8_counted_100 (fun (r_100 : i32 (v 85 1)) => ?_)
    exact M_iret (pc := 101) C rfl dX8_counted_101 rfl rfl
  · refine M_tableIn (pc := 1) C (x := ((10 : Nat) : Int)) (off := 101) (tgt := 102) (by decide) (by decide) rfl dX8_counted_1 (by decide) ?_
    refine M_aload_n (pc := 102) C dX8_counted_102 rfl (by decide) ?_
    refine A_getR (pc := 103) C fl_X8_7 rfl (a := 84) (j := 85) rfl (tt_84 hT) rfl dX8_counted_103 ?_
    refine M_iconst (pc := 106) C dX8_counted_106 ?_
    refine A_iald (pc := 107) C (a := 85) (q := 2) rfl (tt_85 hT) (by decide) rfl (by omega) dX8_counted_107 (fun (r_107 : i32 (v 85 2)) => ?_)
    exact M_iret (pc := 108) C rfl dX8_counted_108 rfl rfl
  · refine M_tableOut (pc := 1) C (x := ((11 : Nat) : Int)) (tgt := 109) (by decide) (by decide) dX8_counted_1 (by decide) ?_
    refine M_aload_n (pc := 109) C dX8_counted_109 rfl (by decide) ?_
    refine A_getI (pc := 110) C fl_X8_78 rfl (a := 84) rfl (tt_84 hT) dX8_counted_110 (fun (r_110 : i32 (v 84 5)) => ?_)
    exact M_iret (pc := 113) C rfl dX8_counted_113 rfl rfl
theorem c_X8_couldCome {N : Nat} {T : Ty} {s : Nat} {v : Ct} (hT : TT T) (hI : RI (v 85)) (hs : s ≤ 200) : Runs mX8_couldCome 6 0 0 [vR 84, vI ((s : Nat) : Int)] N T v (some (vI (Bi (ccF (v 85) s)))) N T v := by
  have hb1 := cntK_bd (v 85) 0; have hb2 := gapF_bd (v 85) ((s % 16 : Nat) : Int)
  refine Runs.of (by decide) (Nat.le_of_ble_eq_true rfl) fun κ C => ?_
  refine M_aload_n (pc := 0) C dX8_couldCome_0 rfl (by decide) ?_
  refine M_iconst (pc := 1) C dX8_couldCome_1 ?_
  refine A_cV (pc := 2) C (x := vI (cntK (v 85) 0)) (a := 84) (c := 8) (c_X8_blocksThat hT (x := 0) (by omega)) yw_X8_blocksThat lk_X8_146 rfl (congrArg Prod.fst (tt_84 hT)) hc_8 rfl dX8_couldCome_2 rfl (Nat.le_of_ble_eq_true rfl) (by decide) ⟨Nat.le_refl _, Nat.le_refl _⟩ ?_
  refine M_istore_n (pc := 5) C dX8_couldCome_5 (by decide) ?_
  refine M_iload_n (pc := 6) C dX8_couldCome_6 rfl ?_
  refine M_bipush (pc := 7) C (by decide) dX8_couldCome_7 ?_
  refine M_idiv (pc := 9) C (by omega) (by decide) dX8_couldCome_9 ?_
  refine M_istore_n (pc := 10) C dX8_couldCome_10 (by decide) ?_
  refine M_iload_n (pc := 11) C dX8_couldCome_11 rfl ?_
  refine M_iload_n (pc := 12) C dX8_couldCome_12 rfl ?_
  refine M_icmp_gt (pc := 13) C (tgt := 44) (by omega) (by omega) dX8_couldCome_13 (by decide) (fun h_13 => ?_) (fun h_13 => ?_)
  · refine M_iconst (pc := 44) C dX8_couldCome_44 ?_
    exact M_zret (pc := 45) C rfl (Or.inl rfl) dX8_couldCome_45 (by unfold ccF; first | (rw [decide_eq_true (by omega)]; done) | (rw [decide_eq_false (by omega)]; done) | (rw [decide_eq_true (by omega)]; rfl) | (rw [decide_eq_false (by omega)]; rfl) | (congr 2; apply decide_eq_decide.mpr; omega)) rfl
  · refine M_iload_n (pc := 16) C dX8_couldCome_16 rfl ?_
    refine M_bipush (pc := 17) C (by decide) dX8_couldCome_17 ?_
    refine M_irem (pc := 19) C (by omega) (by decide) dX8_couldCome_19 ?_
    refine M_if_eq (pc := 20) C (tgt := 40) (by omega) dX8_couldCome_20 (by decide) (fun h_20 => ?_) (fun h_20 => ?_)
    · refine M_iconst (pc := 40) C dX8_couldCome_40 ?_
      refine M_goto (pc := 41) C (tgt := 45) dX8_couldCome_41 (by decide) ?_
      exact M_zret (pc := 45) C rfl (Or.inr rfl) dX8_couldCome_45 (by unfold ccF; first | (rw [decide_eq_true (by omega)]; done) | (rw [decide_eq_false (by omega)]; done) | (rw [decide_eq_true (by omega)]; rfl) | (rw [decide_eq_false (by omega)]; rfl) | (congr 2; apply decide_eq_decide.mpr; omega)) rfl
    · refine M_iload_n (pc := 23) C dX8_couldCome_23 rfl ?_
      refine M_iload_n (pc := 24) C dX8_couldCome_24 rfl ?_
      refine M_icmp_lt (pc := 25) C (tgt := 40) (by omega) (by omega) dX8_couldCome_25 (by decide) (fun h_25 => ?_) (fun h_25 => ?_)
      · refine M_iconst (pc := 40) C dX8_couldCome_40 ?_
        refine M_goto (pc := 41) C (tgt := 45) dX8_couldCome_41 (by decide) ?_
        exact M_zret (pc := 45) C rfl (Or.inr rfl) dX8_couldCome_45 (by unfold ccF; first | (rw [decide_eq_true (by omega)]; done) | (rw [decide_eq_false (by omega)]; done) | (rw [decide_eq_true (by omega)]; rfl) | (rw [decide_eq_false (by omega)]; rfl) | (congr 2; apply decide_eq_decide.mpr; omega)) rfl
      · refine M_aload_n (pc := 28) C dX8_couldCome_28 rfl (by decide) ?_
        refine M_iload_n (pc := 29) C dX8_couldCome_29 rfl ?_
        refine M_bipush (pc := 30) C (by decide) dX8_couldCome_30 ?_
        refine M_irem (pc := 32) C (by omega) (by decide) dX8_couldCome_32 ?_
        refine A_cV (pc := 33) C (x := vI (gapF (v 85) ((s % 16 : Nat) : Int))) (a := 84) (c := 8) (c_X8_gapFor hT hI (x := ((s % 16 : Nat) : Int)) (by omega)) yw_X8_gapFor lk_X8_71 rfl (congrArg Prod.fst (tt_84 hT)) hc_8 rfl dX8_couldCome_33 rfl (Nat.le_of_ble_eq_true rfl) (by decide) ⟨Nat.le_refl _, Nat.le_refl _⟩ ?_
        refine M_iconst (pc := 36) C dX8_couldCome_36 ?_
        refine T_icmp_eq (pc := 37) C (by omega) (by omega) dX8_couldCome_37 dX8_couldCome_40 dX8_couldCome_41 dX8_couldCome_44 ?_
        exact M_zret (pc := 45) C rfl (Bi_01 _) dX8_couldCome_45 (by unfold ccF; first | (rw [decide_eq_true (by omega)]; done) | (rw [decide_eq_false (by omega)]; done) | (rw [decide_eq_true (by omega)]; rfl) | (rw [decide_eq_false (by omega)]; rfl) | (congr 2; apply decide_eq_decide.mpr; omega)) rfl
theorem c_X8_greatestSize {N : Nat} {T : Ty} {v : Ct} (hT : TT T) (hI : RI (v 85)) : Runs mX8_greatestSize 7 0 0 [vR 84] N T v (some (vI (grF (v 85)))) N T v := by
  have hb1 : 0 ≤ filF (v 85) ∧ filF (v 85) ≤ 10 := by have := sumN_bd (g := fun f => ro (v 85) f 0) (a := 1) (by decide) 10 (fun f hf => by have := (hI f hf).1; omega); unfold filF; omega
  refine Runs.of (by decide) (Nat.le_of_ble_eq_true rfl) fun κ C => ?_
  refine M_aload_n (pc := 0) C dX8_greatestSize_0 rfl (by decide) ?_
  refine A_cV (pc := 1) C (x := vI (filF (v 85))) (a := 84) (c := 8) (c_X8_files hT hI) yw_X8_files lk_X8_84 rfl (congrArg Prod.fst (tt_84 hT)) hc_8 rfl dX8_greatestSize_1 rfl (Nat.le_of_ble_eq_true rfl) (by decide) ⟨Nat.le_refl _, Nat.le_refl _⟩ ?_
  refine M_bipush (pc := 4) C (by decide) dX8_greatestSize_4 ?_
  refine M_icmp_ne (pc := 6) C (tgt := 11) (by omega) (by omega) dX8_greatestSize_6 (by decide) (fun h_6 => ?_) (fun h_6 => ?_)
  · refine M_sipush (pc := 11) C (by decide) dX8_greatestSize_11 ?_
    refine M_istore_n (pc := 14) C dX8_greatestSize_14 (by decide) ?_
    refine loop_le (P := fun i => (lastN (ccF (v 85)) 200 = lastN (ccF (v 85)) (200 - i)) → M κ N T 15 [some (vR 84), some (vI ((200 - i : Nat) : Int))] [] v 0 0 (QR κ (some (vI (grF (v 85)))) N T v 0 0)) 200 (fun i hi ih => ?_) rfl
    intro hin
    refine M_aload_n (pc := 15) C dX8_greatestSize_15 rfl (by decide) ?_
    refine M_iload_n (pc := 16) C dX8_greatestSize_16 rfl ?_
    refine A_cV (pc := 17) C (x := vI (Bi (ccF (v 85) (200 - i)))) (a := 84) (c := 8) (c_X8_couldCome hT hI (s := 200 - i) (by omega)) yw_X8_couldCome lk_X8_228 rfl (congrArg Prod.fst (tt_84 hT)) hc_8 rfl dX8_greatestSize_17 rfl (Nat.le_of_ble_eq_true rfl) (by decide) ⟨Nat.le_refl _, Nat.le_refl _⟩ ?_
    refine M_if_ne (pc := 20) C (tgt := 29) (Bi_i32 _) dX8_greatestSize_20 (by decide) (fun h_20 => ?_) (fun h_20 => ?_)
    · have b_20 := Bi_ne0 h_20
      refine M_iload_n (pc := 29) C dX8_greatestSize_29 rfl ?_
      exact M_iret (pc := 30) C rfl dX8_greatestSize_30 (by unfold grF; first | (rw [if_pos (by omega)]; done) | (rw [if_neg (by omega), hin, lastN_t b_20])) rfl
    · have b_20 := Bi_eq0 h_20
      refine M_iinc (pc := 23) C dX8_greatestSize_23 rfl (by decide) ?_
      refine M_goto (pc := 26) C (tgt := 15) dX8_greatestSize_26 (by decide) ?_
      exact M.to (ih (by have : i ≠ 200 := (fun e => by rw [e] at b_20; exact absurd b_20 (by rw [ccF_0]; decide)); omega) (by rw [hin, lastN_f (by have : i ≠ 200 := (fun e => by rw [e] at b_20; exact absurd b_20 (by rw [ccF_0]; decide)); omega) b_20]; congr 1)) (by rw [show ((200 - i : Nat) : Int) + -1 = ((200 - (i + 1) : Nat) : Int) by have : i ≠ 200 := (fun e => by rw [e] at b_20; exact absurd b_20 (by rw [ccF_0]; decide)); omega]; rfl) rfl rfl
  · refine M_iconst (pc := 9) C dX8_greatestSize_9 ?_
    exact M_iret (pc := 10) C rfl dX8_greatestSize_10 (by unfold grF; first | (rw [if_pos (by omega)]; done) | (rw [if_neg (by omega), hin, lastN_t b_20])) rfl
theorem c_X8_weakestBlock {N : Nat} {T : Ty} {v : Ct} (hT : TT T) (hI : RI (v 85)) : Runs mX8_weakestBlock 4 0 0 [vR 84] N T v (some (vI (wkN (wkB (v 85)) 24).1)) N T v := by
  refine Runs.of (by decide) (Nat.le_of_ble_eq_true rfl) fun κ C => ?_
  refine M_iconst (pc := 0) C dX8_weakestBlock_0 ?_
  refine M_istore_n (pc := 1) C dX8_weakestBlock_1 (by decide) ?_
  refine M_iconst (pc := 2) C dX8_weakestBlock_2 ?_
  refine M_istore_n (pc := 3) C dX8_weakestBlock_3 (by decide) ?_
  refine M_iconst (pc := 4) C dX8_weakestBlock_4 ?_
  refine M_istore_n (pc := 5) C dX8_weakestBlock_5 (by decide) ?_
  refine loop_le (P := fun b => M κ N T 6 [some (vR 84), some (vI ((wkN (wkB (v 85)) b).1)), some (vI ((wkN (wkB (v 85)) b).2)), some (vI ((b : Nat) : Int)), none, none] [] v 0 0 (QR κ (some (vI (wkN (wkB (v 85)) 24).1)) N T v 0 0)) 24 (fun b hb ihb => ?_)
  have hw1 := wkN_bd (wkB_bd (v 85)) b; have hw2 := wkB_bd (v 85) b
  refine M_iload_n (pc := 6) C dX8_weakestBlock_6 rfl ?_
  refine M_bipush (pc := 7) C (by decide) dX8_weakestBlock_7 ?_
  refine M_icmp_ge (pc := 9) C (tgt := 104) (by omega) (by omega) dX8_weakestBlock_9 (by decide) (fun h_9 => ?_) (fun h_9 => ?_)
  · refine M_iload_n (pc := 104) C dX8_weakestBlock_104 rfl ?_
    exact M_iret (pc := 105) C rfl dX8_weakestBlock_105 (by rw [show b = 24 by omega]) rfl
  · refine M_iconst (pc := 12) C dX8_weakestBlock_12 ?_
    refine M_istore (pc := 13) C dX8_weakestBlock_13 (by decide) ?_
    refine M_iconst (pc := 15) C dX8_weakestBlock_15 ?_
    refine M_istore (pc := 16) C dX8_weakestBlock_16 (by decide) ?_
    refine loop_le (P := fun i => M κ N T 18 [some (vR 84), some (vI ((wkN (wkB (v 85)) b).1)), some (vI ((wkN (wkB (v 85)) b).2)), some (vI ((b : Nat) : Int)), some (vI (sumN (fun f => Bi (wkT (v 85) b f)) i)), some (vI ((i : Nat) : Int))] [] v 0 0 (QR κ (some (vI (wkN (wkB (v 85)) 24).1)) N T v 0 0)) 10 (fun i hi ih => ?_)
    refine M_iload (pc := 18) C dX8_weakestBlock_18 rfl ?_
    refine M_bipush (pc := 20) C (by decide) dX8_weakestBlock_20 ?_
    refine M_icmp_ge (pc := 22) C (tgt := 73) (by omega) (by omega) dX8_weakestBlock_22 (by decide) (fun h_22 => ?_) (fun h_22 => ?_)
    · have hi10 : i = 10 := by omega
      subst hi10
      refine M.to (L2 := [some (vR 84), some (vI (wkN (wkB (v 85)) b).1), some (vI (wkN (wkB (v 85)) b).2), some (vI ((b : Nat) : Int)), some (vI (wkB (v 85) b)), some (vI ((10 : Nat) : Int))]) ?_ rfl rfl rfl
      refine M_iload (pc := 73) C dX8_weakestBlock_73 rfl ?_
      refine M_iload_n (pc := 75) C dX8_weakestBlock_75 rfl ?_
      refine M_icmp_le (pc := 76) C (tgt := 83) (by omega) (by omega) dX8_weakestBlock_76 (by decide) (fun h_76 => ?_) (fun h_76 => ?_)
      · refine M_iload_n (pc := 83) C dX8_weakestBlock_83 rfl ?_
        refine M_istore_n (pc := 84) C dX8_weakestBlock_84 (by decide) ?_
        refine M_iload (pc := 85) C dX8_weakestBlock_85 rfl ?_
        refine M_iload_n (pc := 87) C dX8_weakestBlock_87 rfl ?_
        refine M_icmp_le (pc := 88) C (tgt := 96) (by omega) (by omega) dX8_weakestBlock_88 (by decide) (fun h_88 => ?_) (fun h_88 => ?_)
        · refine M_iload_n (pc := 96) C dX8_weakestBlock_96 rfl ?_
          refine M_istore_n (pc := 97) C dX8_weakestBlock_97 (by decide) ?_
          refine M_iinc (pc := 98) C dX8_weakestBlock_98 rfl (by decide) ?_
          refine M_goto (pc := 101) C (tgt := 6) dX8_weakestBlock_101 (by decide) ?_
          refine M.drop [true, true, true, true, false, false] rfl ?_
          exact M.to (ihb (by omega)) (by first | (rw [wkN_t (c := wkB (v 85)) (b := b) (by omega)]; rfl) | (rw [wkN_f (c := wkB (v 85)) (b := b) (by omega)]; rfl) | (exfalso; omega)) rfl rfl
        · refine M_iload (pc := 91) C dX8_weakestBlock_91 rfl ?_
          refine M_goto (pc := 93) C (tgt := 97) dX8_weakestBlock_93 (by decide) ?_
          refine M_istore_n (pc := 97) C dX8_weakestBlock_97 (by decide) ?_
          refine M_iinc (pc := 98) C dX8_weakestBlock_98 rfl (by decide) ?_
          refine M_goto (pc := 101) C (tgt := 6) dX8_weakestBlock_101 (by decide) ?_
          refine M.drop [true, true, true, true, false, false] rfl ?_
          exact M.to (ihb (by omega)) (by first | (rw [wkN_t (c := wkB (v 85)) (b := b) (by omega)]; rfl) | (rw [wkN_f (c := wkB (v 85)) (b := b) (by omega)]; rfl) | (exfalso; omega)) rfl rfl
      · refine M_iload_n (pc := 79) C dX8_weakestBlock_79 rfl ?_
        refine M_goto (pc := 80) C (tgt := 84) dX8_weakestBlock_80 (by decide) ?_
        refine M_istore_n (pc := 84) C dX8_weakestBlock_84 (by decide) ?_
        refine M_iload (pc := 85) C dX8_weakestBlock_85 rfl ?_
        refine M_iload_n (pc := 87) C dX8_weakestBlock_87 rfl ?_
        refine M_icmp_le (pc := 88) C (tgt := 96) (by omega) (by omega) dX8_weakestBlock_88 (by decide) (fun h_88 => ?_) (fun h_88 => ?_)
        · refine M_iload_n (pc := 96) C dX8_weakestBlock_96 rfl ?_
          refine M_istore_n (pc := 97) C dX8_weakestBlock_97 (by decide) ?_
          refine M_iinc (pc := 98) C dX8_weakestBlock_98 rfl (by decide) ?_
          refine M_goto (pc := 101) C (tgt := 6) dX8_weakestBlock_101 (by decide) ?_
          refine M.drop [true, true, true, true, false, false] rfl ?_
          exact M.to (ihb (by omega)) (by first | (rw [wkN_t (c := wkB (v 85)) (b := b) (by omega)]; rfl) | (rw [wkN_f (c := wkB (v 85)) (b := b) (by omega)]; rfl) | (exfalso; omega)) rfl rfl
        · refine M_iload (pc := 91) C dX8_weakestBlock_91 rfl ?_
          refine M_goto (pc := 93) C (tgt := 97) dX8_weakestBlock_93 (by decide) ?_
          refine M_istore_n (pc := 97) C dX8_weakestBlock_97 (by decide) ?_
          refine M_iinc (pc := 98) C dX8_weakestBlock_98 rfl (by decide) ?_
          refine M_goto (pc := 101) C (tgt := 6) dX8_weakestBlock_101 (by decide) ?_
          refine M.drop [true, true, true, true, false, false] rfl ?_
          exact M.to (ihb (by omega)) (by first | (rw [wkN_t (c := wkB (v 85)) (b := b) (by omega)]; rfl) | (rw [wkN_f (c := wkB (v 85)) (b := b) (by omega)]; rfl) | (exfalso; omega)) rfl rfl
    · refine M_iload (pc := 25) C dX8_weakestBlock_25 rfl ?_
      refine M_aload_n (pc := 27) C dX8_weakestBlock_27 rfl (by decide) ?_
      refine A_getR (pc := 28) C fl_X8_7 rfl (a := 84) (j := 85) rfl (tt_84 hT) rfl dX8_weakestBlock_28 ?_
      refine M_iconst (pc := 31) C dX8_weakestBlock_31 ?_
      refine M_iload_n (pc := 32) C dX8_weakestBlock_32 rfl ?_
      refine M_iadd (pc := 33) C dX8_weakestBlock_33 ?_
      refine A_iald (pc := 34) C (a := 85) (q := (3 + b)) rfl (tt_85 hT) (by decide) (by omega) (by omega) dX8_weakestBlock_34 (fun (r_34 : i32 (v 85 (3 + b))) => ?_)
      refine M_iconst (pc := 35) C dX8_weakestBlock_35 ?_
      refine M_icmp_eq (pc := 36) C (tgt := 63) (by omega) (by omega) dX8_weakestBlock_36 (by decide) (fun h_36 => ?_) (fun h_36 => ?_)
      · refine M_iconst (pc := 63) C dX8_weakestBlock_63 ?_
        refine M_iadd (pc := 64) C dX8_weakestBlock_64 ?_
        refine M_istore (pc := 65) C dX8_weakestBlock_65 (by decide) ?_
        refine M_iinc (pc := 67) C dX8_weakestBlock_67 rfl (by decide) ?_
        refine M_goto (pc := 70) C (tgt := 18) dX8_weakestBlock_70 (by decide) ?_
        exact M.to (ih (by omega)) (by first | (rw [sumN_s (g := (fun f => Bi (wkT (v 85) b f))) (x := 0) (by show Bi (wkT _ _ _) = 0; rw [wkT_no (by first | exact Or.inl (by omega) | exact Or.inr b_46)]; rfl)]; rfl) | (rw [sumN_s (g := (fun f => Bi (wkT (v 85) b f))) (x := Bi (decide (ro (v 85) i 2 = 0))) (by show Bi (wkT _ _ _) = _; rw [wkT_yes (by omega) b_46])]; rfl)) rfl rfl
      · refine M_aload_n (pc := 39) C dX8_weakestBlock_39 rfl (by decide) ?_
        refine M_iload (pc := 40) C dX8_weakestBlock_40 rfl ?_
        refine M_iload_n (pc := 42) C dX8_weakestBlock_42 rfl ?_
        refine A_cV (pc := 43) C (x := vI (Bi (hasIn (v 85) i ((b : Nat) : Int)))) (a := 84) (c := 8) (c_X8_hasIn hT hI (f := i) (b := ((b : Nat) : Int)) (by omega) (by omega)) yw_X8_hasIn lk_X8_143 rfl (congrArg Prod.fst (tt_84 hT)) hc_8 rfl dX8_weakestBlock_43 rfl (Nat.le_of_ble_eq_true rfl) (by decide) ⟨Nat.le_refl _, Nat.le_refl _⟩ ?_
        refine M_if_eq (pc := 46) C (tgt := 63) (Bi_i32 _) dX8_weakestBlock_46 (by decide) (fun h_46 => ?_) (fun h_46 => ?_)
        · have b_46 := Bi_eq0 h_46
          refine M_iconst (pc := 63) C dX8_weakestBlock_63 ?_
          refine M_iadd (pc := 64) C dX8_weakestBlock_64 ?_
          refine M_istore (pc := 65) C dX8_weakestBlock_65 (by decide) ?_
          refine M_iinc (pc := 67) C dX8_weakestBlock_67 rfl (by decide) ?_
          refine M_goto (pc := 70) C (tgt := 18) dX8_weakestBlock_70 (by decide) ?_
          exact M.to (ih (by omega)) (by first | (rw [sumN_s (g := (fun f => Bi (wkT (v 85) b f))) (x := 0) (by show Bi (wkT _ _ _) = 0; rw [wkT_no (by first | exact Or.inl (by omega) | exact Or.inr b_46)]; rfl)]; rfl) | (rw [sumN_s (g := (fun f => Bi (wkT (v 85) b f))) (x := Bi (decide (ro (v 85) i 2 = 0))) (by show Bi (wkT _ _ _) = _; rw [wkT_yes (by omega) b_46])]; rfl)) rfl rfl
        · have b_46 := Bi_ne0 h_46
          refine M_aload_n (pc := 49) C dX8_weakestBlock_49 rfl (by decide) ?_
          refine M_iload (pc := 50) C dX8_weakestBlock_50 rfl ?_
          refine M_iconst (pc := 52) C dX8_weakestBlock_52 ?_
          refine A_cV (pc := 53) C (x := vI (ro (v 85) i 2)) (a := 84) (c := 8) (c_X8_of (f := i) (w := 2) hT (by omega)) yw_X8_of lk_X8_49 rfl (congrArg Prod.fst (tt_84 hT)) hc_8 rfl dX8_weakestBlock_53 rfl (Nat.le_of_ble_eq_true rfl) (by decide) ⟨Nat.le_refl _, Nat.le_refl _⟩ ?_
          refine M_rd (pc := 56) C 85 (27 + 18 * i + 2) (fun (r_53_0 : i32 (ro (v 85) i 2)) => ?_)
          refine T_if_ne (pc := 56) C (by omega) dX8_weakestBlock_56 dX8_weakestBlock_59 dX8_weakestBlock_60 dX8_weakestBlock_63 ?_
          refine M_iadd (pc := 64) C dX8_weakestBlock_64 ?_
          refine M_istore (pc := 65) C dX8_weakestBlock_65 (by decide) ?_
          refine M_iinc (pc := 67) C dX8_weakestBlock_67 rfl (by decide) ?_
          refine M_goto (pc := 70) C (tgt := 18) dX8_weakestBlock_70 (by decide) ?_
          exact M.to (ih (by omega)) (by first | (rw [sumN_s (g := (fun f => Bi (wkT (v 85) b f))) (x := 0) (by show Bi (wkT _ _ _) = 0; rw [wkT_no (by first | exact Or.inl (by omega) | exact Or.inr b_46)]; rfl)]; rfl) | (rw [sumN_s (g := (fun f => Bi (wkT (v 85) b f))) (x := Bi (decide (ro (v 85) i 2 = 0))) (by show Bi (wkT _ _ _) = _; rw [wkT_yes (by omega) b_46])]; rfl)) rfl rfl
