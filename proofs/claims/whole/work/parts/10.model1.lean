theorem c_X8_of {N : Nat} {T : Ty} {f w : Nat} {v : Ct} (hT : TT T) (h : 27 + 18 * f + w < 207) : Runs mX8_of 0 0 0 [vR 84, vI ((f : Nat) : Int), vI ((w : Nat) : Int)] N T v (some (vI (ro (v 85) f w))) N T v := by
  refine Runs.of (by decide) (Nat.le_of_ble_eq_true rfl) fun κ C => ?_
  refine M_aload_n (pc := 0) C dX8_of_0 rfl (by decide) ?_
  refine A_getR (pc := 1) C fl_X8_7 rfl (a := 84) (j := 85) rfl (tt_84 hT) rfl dX8_of_1 ?_
  refine M_bipush (pc := 4) C (by decide) dX8_of_4 ?_
  refine M_bipush (pc := 6) C (by decide) dX8_of_6 ?_
  refine M_iload_n (pc := 8) C dX8_of_8 rfl ?_
  refine M_imul (pc := 9) C dX8_of_9 ?_
  refine M_iadd (pc := 10) C dX8_of_10 ?_
  refine M_iload_n (pc := 11) C dX8_of_11 rfl ?_
  refine M_iadd (pc := 12) C dX8_of_12 ?_
  refine A_iald (pc := 13) C (a := 85) (q := ((27 + (18 * f)) + w)) rfl (tt_85 hT) (by decide) (by omega) (by omega) dX8_of_13 (fun (r_13 : i32 (v 85 ((27 + (18 * f)) + w))) => ?_)
  exact M_iret (pc := 14) C rfl dX8_of_14 rfl rfl
theorem c_X8_lay {N : Nat} {T : Ty} {f w : Nat} {x : Int} {v : Ct} (hT : TT T) (h : 27 + 18 * f + w < 207) (hx : i32 x) : Runs mX8_lay 0 0 0 [vR 84, vI ((f : Nat) : Int), vI ((w : Nat) : Int), vI x] N T v none N T (up v 85 (27 + 18 * f + w) x) := by
  refine Runs.of (by decide) (Nat.le_of_ble_eq_true rfl) fun κ C => ?_
  refine M_aload_n (pc := 0) C dX8_lay_0 rfl (by decide) ?_
  refine A_getR (pc := 1) C fl_X8_7 rfl (a := 84) (j := 85) rfl (tt_84 hT) rfl dX8_lay_1 ?_
  refine M_bipush (pc := 4) C (by decide) dX8_lay_4 ?_
  refine M_bipush (pc := 6) C (by decide) dX8_lay_6 ?_
  refine M_iload_n (pc := 8) C dX8_lay_8 rfl ?_
  refine M_imul (pc := 9) C dX8_lay_9 ?_
  refine M_iadd (pc := 10) C dX8_lay_10 ?_
  refine M_iload_n (pc := 11) C dX8_lay_11 rfl ?_
  refine M_iadd (pc := 12) C dX8_lay_12 ?_
  refine M_iload_n (pc := 13) C dX8_lay_13 rfl ?_
  refine A_iast (pc := 14) C (a := 85) (q := ((27 + (18 * f)) + w)) rfl (tt_85 hT) (by decide) (by omega) (by omega) (by omega) dX8_lay_14 ?_
  exact M_vret (pc := 15) C rfl dX8_lay_15 rfl rfl
theorem c_X8_in {N : Nat} {T : Ty} {x a b : Int} {v : Ct} (hT : TT T) (hx : i32 x) (ha : i32 a) (hb : i32 b) : Runs mX8_in 0 0 0 [vI x, vI a, vI b] N T v (some (vI (Bi (inB x a b)))) N T v := by
  refine Runs.of (by decide) (Nat.le_of_ble_eq_true rfl) fun κ C => ?_
  refine M_iload_n (pc := 0) C dX8_in_0 rfl ?_
  refine M_iload_n (pc := 1) C dX8_in_1 rfl ?_
  refine M_icmp_lt (pc := 2) C (tgt := 14) (by omega) (by omega) dX8_in_2 (by decide) (fun h_2 => ?_) (fun h_2 => ?_)
  · refine M_iconst (pc := 14) C dX8_in_14 ?_
    exact M_zret (pc := 15) C rfl (Or.inl rfl) dX8_in_15 (by first | (rw [inB_t (by omega) (by omega)]; rfl) | (rw [inB_f (by omega)]; rfl)) rfl
  · refine M_iload_n (pc := 5) C dX8_in_5 rfl ?_
    refine M_iload_n (pc := 6) C dX8_in_6 rfl ?_
    refine M_icmp_gt (pc := 7) C (tgt := 14) (by omega) (by omega) dX8_in_7 (by decide) (fun h_7 => ?_) (fun h_7 => ?_)
    · refine M_iconst (pc := 14) C dX8_in_14 ?_
      exact M_zret (pc := 15) C rfl (Or.inl rfl) dX8_in_15 (by first | (rw [inB_t (by omega) (by omega)]; rfl) | (rw [inB_f (by omega)]; rfl)) rfl
    · refine M_iconst (pc := 10) C dX8_in_10 ?_
      refine M_goto (pc := 11) C (tgt := 15) dX8_in_11 (by decide) ?_
      exact M_zret (pc := 15) C rfl (Or.inr rfl) dX8_in_15 (by first | (rw [inB_t (by omega) (by omega)]; rfl) | (rw [inB_f (by omega)]; rfl)) rfl
theorem c_X8_isFile_n {N : Nat} {T : Ty} {f : Nat} {v : Ct} (hT : TT T) (hf : f < 10) : Runs mX8_isFile 1 0 0 [vR 84, vI ((f : Nat) : Int)] N T v (some (vI (Bi (decide (ro (v 85) f 0 = 1))))) N T v := by
  refine Runs.of (by decide) (Nat.le_of_ble_eq_true rfl) fun κ C => ?_
  refine M_iload_n (pc := 0) C dX8_isFile_0 rfl ?_
  refine M_iconst (pc := 1) C dX8_isFile_1 ?_
  refine M_bipush (pc := 2) C (by decide) dX8_isFile_2 ?_
  refine A_cS (pc := 4) C (x := vI (Bi (inB ((f : Nat) : Int) 0 9))) (c_X8_in hT (x := ((f : Nat) : Int)) (a := 0) (b := 9) (by omega) (by omega) (by omega)) yw_X8_in lk_X8_45 rfl dX8_isFile_4 rfl (Nat.le_of_ble_eq_true rfl) (by decide) ⟨Nat.le_refl _, Nat.le_refl _⟩ ?_
  refine M_if_eq (pc := 7) C (tgt := 24) (Bi_i32 _) dX8_isFile_7 (by decide) (fun h_7 => ?_) (fun h_7 => ?_)
  · have b_7 := Bi_eq0 h_7
    exact absurd (inB_t (v := (f : Int)) (a := 0) (b := 9) (by omega) (by omega)) (by rw [b_7]; decide)
  · have b_7 := Bi_ne0 h_7
    refine M_aload_n (pc := 10) C dX8_isFile_10 rfl (by decide) ?_
    refine M_iload_n (pc := 11) C dX8_isFile_11 rfl ?_
    refine M_iconst (pc := 12) C dX8_isFile_12 ?_
    refine A_cV (pc := 13) C (x := vI (ro (v 85) f 0)) (a := 84) (c := 8) (c_X8_of (f := f) (w := 0) hT (by omega)) yw_X8_of lk_X8_49 rfl (congrArg Prod.fst (tt_84 hT)) hc_8 rfl dX8_isFile_13 rfl (Nat.le_of_ble_eq_true rfl) (by decide) ⟨Nat.le_refl _, Nat.le_refl _⟩ ?_
    refine M_rd (pc := 16) C 85 (27 + 18 * f + 0) (fun (r_13_0 : i32 (ro (v 85) f 0)) => ?_)
    refine M_iconst (pc := 16) C dX8_isFile_16 ?_
    refine T_icmp_ne (pc := 17) C (by omega) (by omega) dX8_isFile_17 dX8_isFile_20 dX8_isFile_21 dX8_isFile_24 ?_
    exact M_zret (pc := 25) C rfl (Bi_01 _) dX8_isFile_25 rfl rfl
theorem c_X8_isFile_o {N : Nat} {T : Ty} {f : Int} {v : Ct} (hT : TT T) (hf : i32 f) (hf2 : f < 0 ∨ 9 < f) : Runs mX8_isFile 1 0 0 [vR 84, vI f] N T v (some (vI 0)) N T v := by
  refine Runs.of (by decide) (Nat.le_of_ble_eq_true rfl) fun κ C => ?_
  refine M_iload_n (pc := 0) C dX8_isFile_0 rfl ?_
  refine M_iconst (pc := 1) C dX8_isFile_1 ?_
  refine M_bipush (pc := 2) C (by decide) dX8_isFile_2 ?_
  refine A_cS (pc := 4) C (x := vI (Bi (inB f 0 9))) (c_X8_in hT (x := f) (a := 0) (b := 9) (by omega) (by omega) (by omega)) yw_X8_in lk_X8_45 rfl dX8_isFile_4 rfl (Nat.le_of_ble_eq_true rfl) (by decide) ⟨Nat.le_refl _, Nat.le_refl _⟩ ?_
  refine M_if_eq (pc := 7) C (tgt := 24) (Bi_i32 _) dX8_isFile_7 (by decide) (fun h_7 => ?_) (fun h_7 => ?_)
  · have b_7 := Bi_eq0 h_7
    refine M_iconst (pc := 24) C dX8_isFile_24 ?_
    exact M_zret (pc := 25) C rfl (Or.inl rfl) dX8_isFile_25 rfl rfl
  · have b_7 := Bi_ne0 h_7
    exact absurd b_7 (by rw [inB_f hf2]; decide)
theorem c_X8_isFile {N : Nat} {T : Ty} {f : Int} {v : Ct} (hT : TT T) (hf : i32 f) : Runs mX8_isFile 1 0 0 [vR 84, vI f] N T v (some (vI (Bi (isF (v 85) f)))) N T v := by
  by_cases h : 0 ≤ f ∧ f ≤ 9
  · obtain ⟨n, rfl⟩ : ∃ n : Nat, f = (n : Int) := ⟨f.toNat, by omega⟩
    rw [isF_nat (by omega)]
    exact c_X8_isFile_n hT (by omega)
  · rw [show isF (v 85) f = false from by unfold isF; rw [decide_eq_false h, Bool.false_and]]
    exact c_X8_isFile_o hT hf (by omega)
theorem c_X8_tailOf {N : Nat} {T : Ty} {f : Nat} {v : Ct} (hT : TT T) (hI : RI (v 85)) (hf : f < 10) : Runs mX8_tailOf 1 0 0 [vR 84, vI ((f : Nat) : Int)] N T v (some (vI (ro (v 85) f 1 % 16))) N T v := by
  have hf1 := (hI f hf).2.1
  refine Runs.of (by decide) (Nat.le_of_ble_eq_true rfl) fun κ C => ?_
  refine M_aload_n (pc := 0) C dX8_tailOf_0 rfl (by decide) ?_
  refine M_iload_n (pc := 1) C dX8_tailOf_1 rfl ?_
  refine M_iconst (pc := 2) C dX8_tailOf_2 ?_
  refine A_cV (pc := 3) C (x := vI (ro (v 85) f 1)) (a := 84) (c := 8) (c_X8_of (f := f) (w := 1) hT (by omega)) yw_X8_of lk_X8_49 rfl (congrArg Prod.fst (tt_84 hT)) hc_8 rfl dX8_tailOf_3 rfl (Nat.le_of_ble_eq_true rfl) (by decide) ⟨Nat.le_refl _, Nat.le_refl _⟩ ?_
  refine M_rd (pc := 6) C 85 (27 + 18 * f + 1) (fun (r_3_0 : i32 (ro (v 85) f 1)) => ?_)
  refine M_bipush (pc := 6) C (by decide) dX8_tailOf_6 ?_
  refine M_irem (pc := 8) C (by omega) (by decide) dX8_tailOf_8 ?_
  exact M_iret (pc := 9) C rfl dX8_tailOf_9 rfl rfl
theorem c_X8_wholeOf {N : Nat} {T : Ty} {f : Nat} {v : Ct} (hT : TT T) (hI : RI (v 85)) (hf : f < 10) : Runs mX8_wholeOf 1 0 0 [vR 84, vI ((f : Nat) : Int)] N T v (some (vI (ro (v 85) f 1 / 16))) N T v := by
  have hf1 := (hI f hf).2.1
  refine Runs.of (by decide) (Nat.le_of_ble_eq_true rfl) fun κ C => ?_
  refine M_aload_n (pc := 0) C dX8_wholeOf_0 rfl (by decide) ?_
  refine M_iload_n (pc := 1) C dX8_wholeOf_1 rfl ?_
  refine M_iconst (pc := 2) C dX8_wholeOf_2 ?_
  refine A_cV (pc := 3) C (x := vI (ro (v 85) f 1)) (a := 84) (c := 8) (c_X8_of (f := f) (w := 1) hT (by omega)) yw_X8_of lk_X8_49 rfl (congrArg Prod.fst (tt_84 hT)) hc_8 rfl dX8_wholeOf_3 rfl (Nat.le_of_ble_eq_true rfl) (by decide) ⟨Nat.le_refl _, Nat.le_refl _⟩ ?_
  refine M_rd (pc := 6) C 85 (27 + 18 * f + 1) (fun (r_3_0 : i32 (ro (v 85) f 1)) => ?_)
  refine M_bipush (pc := 6) C (by decide) dX8_wholeOf_6 ?_
  refine M_idiv (pc := 8) C (by omega) (by decide) dX8_wholeOf_8 ?_
  exact M_iret (pc := 9) C rfl dX8_wholeOf_9 rfl rfl
theorem c_X8_hasTailIn {N : Nat} {T : Ty} {f : Nat} {b : Int} {v : Ct} (hT : TT T) (hI : RI (v 85)) (hf : f < 10) (hb : i32 b) : Runs mX8_hasTailIn 2 0 0 [vR 84, vI ((f : Nat) : Int), vI b] N T v (some (vI (Bi (hasT (v 85) f b)))) N T v := by
  have hf1 := (hI f hf).2.1
  refine Runs.of (by decide) (Nat.le_of_ble_eq_true rfl) fun κ C => ?_
  refine M_aload_n (pc := 0) C dX8_hasTailIn_0 rfl (by decide) ?_
  refine M_iload_n (pc := 1) C dX8_hasTailIn_1 rfl ?_
  refine A_cV (pc := 2) C (x := vI (Bi (decide (ro (v 85) f 0 = 1)))) (a := 84) (c := 8) (c_X8_isFile_n hT (f := f) (by omega)) yw_X8_isFile lk_X8_53 rfl (congrArg Prod.fst (tt_84 hT)) hc_8 rfl dX8_hasTailIn_2 rfl (Nat.le_of_ble_eq_true rfl) (by decide) ⟨Nat.le_refl _, Nat.le_refl _⟩ ?_
  refine M_if_eq (pc := 5) C (tgt := 30) (Bi_i32 _) dX8_hasTailIn_5 (by decide) (fun h_5 => ?_) (fun h_5 => ?_)
  · have b_5 := Bid_eq0 h_5
    refine M_iconst (pc := 30) C dX8_hasTailIn_30 ?_
    exact M_zret (pc := 31) C rfl (Or.inl rfl) dX8_hasTailIn_31 (by first | (rw [hasT_no (by omega)]; rfl) | (rw [hasT_yes (by omega) (by omega)])) rfl
  · have b_5 := Bid_ne0 h_5
    refine M_aload_n (pc := 8) C dX8_hasTailIn_8 rfl (by decide) ?_
    refine M_iload_n (pc := 9) C dX8_hasTailIn_9 rfl ?_
    refine A_cV (pc := 10) C (x := vI (ro (v 85) f 1 % 16)) (a := 84) (c := 8) (c_X8_tailOf hT hI (f := f) (by omega)) yw_X8_tailOf lk_X8_57 rfl (congrArg Prod.fst (tt_84 hT)) hc_8 rfl dX8_hasTailIn_10 rfl (Nat.le_of_ble_eq_true rfl) (by decide) ⟨Nat.le_refl _, Nat.le_refl _⟩ ?_
    refine M_if_le (pc := 13) C (tgt := 30) (by omega) dX8_hasTailIn_13 (by decide) (fun h_13 => ?_) (fun h_13 => ?_)
    · refine M_iconst (pc := 30) C dX8_hasTailIn_30 ?_
      exact M_zret (pc := 31) C rfl (Or.inl rfl) dX8_hasTailIn_31 (by first | (rw [hasT_no (by omega)]; rfl) | (rw [hasT_yes (by omega) (by omega)])) rfl
    · refine M_aload_n (pc := 16) C dX8_hasTailIn_16 rfl (by decide) ?_
      refine M_iload_n (pc := 17) C dX8_hasTailIn_17 rfl ?_
      refine M_iconst (pc := 18) C dX8_hasTailIn_18 ?_
      refine A_cV (pc := 19) C (x := vI (ro (v 85) f 3)) (a := 84) (c := 8) (c_X8_of (f := f) (w := 3) hT (by omega)) yw_X8_of lk_X8_49 rfl (congrArg Prod.fst (tt_84 hT)) hc_8 rfl dX8_hasTailIn_19 rfl (Nat.le_of_ble_eq_true rfl) (by decide) ⟨Nat.le_refl _, Nat.le_refl _⟩ ?_
      refine M_rd (pc := 22) C 85 (27 + 18 * f + 3) (fun (r_19_0 : i32 (ro (v 85) f 3)) => ?_)
      refine M_iload_n (pc := 22) C dX8_hasTailIn_22 rfl ?_
      refine T_icmp_ne (pc := 23) C (by omega) (by omega) dX8_hasTailIn_23 dX8_hasTailIn_26 dX8_hasTailIn_27 dX8_hasTailIn_30 ?_
      exact M_zret (pc := 31) C rfl (Bi_01 _) dX8_hasTailIn_31 (by first | (rw [hasT_no (by omega)]; rfl) | (rw [hasT_yes (by omega) (by omega)])) rfl
theorem c_X8_files {N : Nat} {T : Ty} {v : Ct} (hT : TT T) (hI : RI (v 85)) : Runs mX8_files 1 0 0 [vR 84] N T v (some (vI (sumN (fun f => ro (v 85) f 0) 10))) N T v := by
  refine Runs.of (by decide) (Nat.le_of_ble_eq_true rfl) fun κ C => ?_
  refine M_iconst (pc := 0) C dX8_files_0 ?_
  refine M_istore_n (pc := 1) C dX8_files_1 (by decide) ?_
  refine M_iconst (pc := 2) C dX8_files_2 ?_
  refine M_istore_n (pc := 3) C dX8_files_3 (by decide) ?_
  refine loop_le (P := fun i => M κ N T 4 [some (vR 84), some (vI (sumN (fun f => ro (v 85) f 0) i)), some (vI ((i : Nat) : Int))] [] v 0 0 (QR κ (some (vI (sumN (fun f => ro (v 85) f 0) 10))) N T v 0 0)) 10 (fun i hi ih => ?_)
  refine M_iload_n (pc := 4) C dX8_files_4 rfl ?_
  refine M_bipush (pc := 5) C (by decide) dX8_files_5 ?_
  refine M_icmp_ge (pc := 7) C (tgt := 25) (by omega) (by omega) dX8_files_7 (by decide) (fun h_7 => ?_) (fun h_7 => ?_)
  · refine M_iload_n (pc := 25) C dX8_files_25 rfl ?_
    exact M_iret (pc := 26) C rfl dX8_files_26 (by rw [show i = 10 by omega]) rfl
  · refine M_iload_n (pc := 10) C dX8_files_10 rfl ?_
    refine M_aload_n (pc := 11) C dX8_files_11 rfl (by decide) ?_
    refine M_iload_n (pc := 12) C dX8_files_12 rfl ?_
    refine M_iconst (pc := 13) C dX8_files_13 ?_
    refine A_cV (pc := 14) C (x := vI (ro (v 85) i 0)) (a := 84) (c := 8) (c_X8_of (f := i) (w := 0) hT (by omega)) yw_X8_of lk_X8_49 rfl (congrArg Prod.fst (tt_84 hT)) hc_8 rfl dX8_files_14 rfl (Nat.le_of_ble_eq_true rfl) (by decide) ⟨Nat.le_refl _, Nat.le_refl _⟩ ?_
    refine M_rd (pc := 17) C 85 (27 + 18 * i + 0) (fun (r_14_0 : i32 (ro (v 85) i 0)) => ?_)
    refine M_iadd (pc := 17) C dX8_files_17 ?_
    refine M_istore_n (pc := 18) C dX8_files_18 (by decide) ?_
    refine M_iinc (pc := 19) C dX8_files_19 rfl (by decide) ?_
    refine M_goto (pc := 22) C (tgt := 4) dX8_files_22 (by decide) ?_
    exact M.to (ih (by omega)) (by rw [sumN_s rfl]; rfl) rfl rfl
theorem c_X8_blocksThat {N : Nat} {T : Ty} {x : Int} {v : Ct} (hT : TT T) (hx : i32 x) : Runs mX8_blocksThat 0 0 0 [vR 84, vI x] N T v (some (vI (sumN (fun b => Bi (decide (v 85 (3 + b) = x))) 24))) N T v := by
  refine Runs.of (by decide) (Nat.le_of_ble_eq_true rfl) fun κ C => ?_
  refine M_iconst (pc := 0) C dX8_blocksThat_0 ?_
  refine M_istore_n (pc := 1) C dX8_blocksThat_1 (by decide) ?_
  refine M_iconst (pc := 2) C dX8_blocksThat_2 ?_
  refine M_istore_n (pc := 3) C dX8_blocksThat_3 (by decide) ?_
  refine loop_le (P := fun i => M κ N T 4 [some (vR 84), some (vI x), some (vI (sumN (fun b => Bi (decide (v 85 (3 + b) = x))) i)), some (vI ((i : Nat) : Int))] [] v 0 0 (QR κ (some (vI (sumN (fun b => Bi (decide (v 85 (3 + b) = x))) 24))) N T v 0 0)) 24 (fun i hi ih => ?_)
  refine M_iload_n (pc := 4) C dX8_blocksThat_4 rfl ?_
  refine M_bipush (pc := 5) C (by decide) dX8_blocksThat_5 ?_
  refine M_icmp_ge (pc := 7) C (tgt := 36) (by omega) (by omega) dX8_blocksThat_7 (by decide) (fun h_7 => ?_) (fun h_7 => ?_)
  · refine M_iload_n (pc := 36) C dX8_blocksThat_36 rfl ?_
    exact M_iret (pc := 37) C rfl dX8_blocksThat_37 (by rw [show i = 24 by omega]) rfl
  · refine M_iload_n (pc := 10) C dX8_blocksThat_10 rfl ?_
    refine M_aload_n (pc := 11) C dX8_blocksThat_11 rfl (by decide) ?_
    refine A_getR (pc := 12) C fl_X8_7 rfl (a := 84) (j := 85) rfl (tt_84 hT) rfl dX8_blocksThat_12 ?_
    refine M_iconst (pc := 15) C dX8_blocksThat_15 ?_
    refine M_iload_n (pc := 16) C dX8_blocksThat_16 rfl ?_
    refine M_iadd (pc := 17) C dX8_blocksThat_17 ?_
    refine A_iald (pc := 18) C (a := 85) (q := (3 + i)) rfl (tt_85 hT) (by decide) (by omega) (by omega) dX8_blocksThat_18 (fun (r_18 : i32 (v 85 (3 + i))) => ?_)
    refine M_iload_n (pc := 19) C dX8_blocksThat_19 rfl ?_
    refine T_icmp_ne (pc := 20) C (by omega) (by omega) dX8_blocksThat_20 dX8_blocksThat_23 dX8_blocksThat_24 dX8_blocksThat_27 ?_
    refine M_iadd (pc := 28) C dX8_blocksThat_28 ?_
    refine M_istore_n (pc := 29) C dX8_blocksThat_29 (by decide) ?_
    refine M_iinc (pc := 30) C dX8_blocksThat_30 rfl (by decide) ?_
    refine M_goto (pc := 33) C (tgt := 4) dX8_blocksThat_33 (by decide) ?_
    exact M.to (ih (by omega)) (by rw [sumN_s rfl]; rfl) rfl rfl
theorem c_X8_lowestFree {N : Nat} {T : Ty} {v : Ct} (hT : TT T)  : Runs mX8_lowestFree 0 0 0 [vR 84] N T v (some (vI (lowF (v 85)))) N T v := by
  refine Runs.of (by decide) (Nat.le_of_ble_eq_true rfl) fun κ C => ?_
  refine M_iconst (pc := 0) C dX8_lowestFree_0 ?_
  refine M_istore_n (pc := 1) C dX8_lowestFree_1 (by decide) ?_
  refine loop_le (P := fun i => (∀ j, j < i → decide (v 85 (3 + j) = 0) = false) → M κ N T 2 [some (vR 84), some (vI ((i : Nat) : Int))] [] v 0 0 (QR κ (some (vI (lowF (v 85)))) N T v 0 0)) 24 (fun i hi ih => ?_) (fun j hj => absurd hj (Nat.not_lt_zero j))
  intro hin
  refine M_iload_n (pc := 2) C dX8_lowestFree_2 rfl ?_
  refine M_bipush (pc := 3) C (by decide) dX8_lowestFree_3 ?_
  refine M_icmp_ge (pc := 5) C (tgt := 27) (by omega) (by omega) dX8_lowestFree_5 (by decide) (fun h_5 => ?_) (fun h_5 => ?_)
  · refine M_iconst (pc := 27) C dX8_lowestFree_27 ?_
    exact M_iret (pc := 28) C rfl dX8_lowestFree_28 (by first | (rw [show lowF (v 85) = i from firstN_at (p := fun b => decide (v 85 (3 + b) = 0)) hin (decide_eq_true (by omega)) (by omega)]) | (rw [show lowF (v 85) = -1 from firstN_none (p := fun b => decide (v 85 (3 + b) = 0)) (fun j hj => hin j (by omega))])) rfl
  · refine M_aload_n (pc := 8) C dX8_lowestFree_8 rfl (by decide) ?_
    refine A_getR (pc := 9) C fl_X8_7 rfl (a := 84) (j := 85) rfl (tt_84 hT) rfl dX8_lowestFree_9 ?_
    refine M_iconst (pc := 12) C dX8_lowestFree_12 ?_
    refine M_iload_n (pc := 13) C dX8_lowestFree_13 rfl ?_
    refine M_iadd (pc := 14) C dX8_lowestFree_14 ?_
    refine A_iald (pc := 15) C (a := 85) (q := (3 + i)) rfl (tt_85 hT) (by decide) (by omega) (by omega) dX8_lowestFree_15 (fun (r_15 : i32 (v 85 (3 + i))) => ?_)
    refine M_if_ne (pc := 16) C (tgt := 21) (by omega) dX8_lowestFree_16 (by decide) (fun h_16 => ?_) (fun h_16 => ?_)
    · refine M_iinc (pc := 21) C dX8_lowestFree_21 rfl (by decide) ?_
      refine M_goto (pc := 24) C (tgt := 2) dX8_lowestFree_24 (by decide) ?_
      exact M.to (ih (by omega) (fun j hj => by by_cases e : j = i; (rw [e]; exact decide_eq_false (by omega)); exact hin j (by omega))) rfl rfl rfl
    · refine M_iload_n (pc := 19) C dX8_lowestFree_19 rfl ?_
      exact M_iret (pc := 20) C rfl dX8_lowestFree_20 (by first | (rw [show lowF (v 85) = i from firstN_at (p := fun b => decide (v 85 (3 + b) = 0)) hin (decide_eq_true (by omega)) (by omega)]) | (rw [show lowF (v 85) = -1 from firstN_none (p := fun b => decide (v 85 (3 + b) = 0)) (fun j hj => hin j (by omega))])) rfl
theorem c_X8_tailsIn {N : Nat} {T : Ty} {b : Int} {v : Ct} (hT : TT T) (hI : RI (v 85)) (hb : i32 b) : Runs mX8_tailsIn 3 0 0 [vR 84, vI b] N T v (some (vI (sumN (fun f => Bi (hasT (v 85) f b)) 10))) N T v := by
  refine Runs.of (by decide) (Nat.le_of_ble_eq_true rfl) fun κ C => ?_
  refine M_iconst (pc := 0) C dX8_tailsIn_0 ?_
  refine M_istore_n (pc := 1) C dX8_tailsIn_1 (by decide) ?_
  refine M_iconst (pc := 2) C dX8_tailsIn_2 ?_
  refine M_istore_n (pc := 3) C dX8_tailsIn_3 (by decide) ?_
  refine loop_le (P := fun i => M κ N T 4 [some (vR 84), some (vI b), some (vI (sumN (fun f => Bi (hasT (v 85) f b)) i)), some (vI ((i : Nat) : Int))] [] v 0 0 (QR κ (some (vI (sumN (fun f => Bi (hasT (v 85) f b)) 10))) N T v 0 0)) 10 (fun i hi ih => ?_)
  refine M_iload_n (pc := 4) C dX8_tailsIn_4 rfl ?_
  refine M_bipush (pc := 5) C (by decide) dX8_tailsIn_5 ?_
  refine M_icmp_ge (pc := 7) C (tgt := 33) (by omega) (by omega) dX8_tailsIn_7 (by decide) (fun h_7 => ?_) (fun h_7 => ?_)
  · refine M_iload_n (pc := 33) C dX8_tailsIn_33 rfl ?_
    exact M_iret (pc := 34) C rfl dX8_tailsIn_34 (by rw [show i = 10 by omega]) rfl
  · refine M_iload_n (pc := 10) C dX8_tailsIn_10 rfl ?_
    refine M_aload_n (pc := 11) C dX8_tailsIn_11 rfl (by decide) ?_
    refine M_iload_n (pc := 12) C dX8_tailsIn_12 rfl ?_
    refine M_iload_n (pc := 13) C dX8_tailsIn_13 rfl ?_
    refine A_cV (pc := 14) C (x := vI (Bi (hasT (v 85) i b))) (a := 84) (c := 8) (c_X8_hasTailIn hT hI (f := i) (b := b) (by omega) (by omega)) yw_X8_hasTailIn lk_X8_61 rfl (congrArg Prod.fst (tt_84 hT)) hc_8 rfl dX8_tailsIn_14 rfl (Nat.le_of_ble_eq_true rfl) (by decide) ⟨Nat.le_refl _, Nat.le_refl _⟩ ?_
    refine T_eq (pc := 17) C dX8_tailsIn_17 dX8_tailsIn_20 dX8_tailsIn_21 dX8_tailsIn_24 ?_
    refine M_iadd (pc := 25) C dX8_tailsIn_25 ?_
    refine M_istore_n (pc := 26) C dX8_tailsIn_26 (by decide) ?_
    refine M_iinc (pc := 27) C dX8_tailsIn_27 rfl (by decide) ?_
    refine M_goto (pc := 30) C (tgt := 4) dX8_tailsIn_30 (by decide) ?_
    exact M.to (ih (by omega)) (by rw [sumN_s rfl]; rfl) rfl rfl
theorem c_X8_isTaken {N : Nat} {T : Ty} {b c : Int} {v : Ct} (hT : TT T) (hI : RI (v 85)) (hb : i32 b) (hc : i32 c) : Runs mX8_isTaken 3 0 0 [vR 84, vI b, vI c] N T v (some (vI (Bi (isTk (v 85) b c)))) N T v := by
  refine Runs.of (by decide) (Nat.le_of_ble_eq_true rfl) fun κ C => ?_
  refine M_iconst (pc := 0) C dX8_isTaken_0 ?_
  refine M_istore_n (pc := 1) C dX8_isTaken_1 (by decide) ?_
  refine M_iconst (pc := 2) C dX8_isTaken_2 ?_
  refine M_istore (pc := 3) C dX8_isTaken_3 (by decide) ?_
  refine loop_le (P := fun i => M κ N T 5 [some (vR 84), some (vI b), some (vI c), some (vI (Bi (orN (takB (v 85) b c) i))), some (vI ((i : Nat) : Int))] [] v 0 0 (QR κ (some (vI (Bi (isTk (v 85) b c)))) N T v 0 0)) 10 (fun i hi ih => ?_)
  refine M_iload (pc := 5) C dX8_isTaken_5 rfl ?_
  refine M_bipush (pc := 7) C (by decide) dX8_isTaken_7 ?_
  refine M_icmp_ge (pc := 9) C (tgt := 68) (by omega) (by omega) dX8_isTaken_9 (by decide) (fun h_9 => ?_) (fun h_9 => ?_)
  · refine M_iload_n (pc := 68) C dX8_isTaken_68 rfl ?_
    exact M_zret (pc := 69) C rfl (Bi_01 _) dX8_isTaken_69 (by rw [show i = 10 by omega]; rfl) rfl
  · refine M_iload_n (pc := 12) C dX8_isTaken_12 rfl ?_
    refine M_if_ne (pc := 13) C (tgt := 56) (Bi_i32 _) dX8_isTaken_13 (by decide) (fun h_13 => ?_) (fun h_13 => ?_)
    · have b_13 := Bi_ne0 h_13
      refine M_iconst (pc := 56) C dX8_isTaken_56 ?_
      refine M_goto (pc := 57) C (tgt := 61) dX8_isTaken_57 (by decide) ?_
      refine M_istore_n (pc := 61) C dX8_isTaken_61 (by decide) ?_
      refine M_iinc (pc := 62) C dX8_isTaken_62 rfl (by decide) ?_
      refine M_goto (pc := 65) C (tgt := 5) dX8_isTaken_65 (by decide) ?_
      exact M.to (ih (by omega)) (by first | (rw [orN_t b_13]; rfl) | (rw [orN_f b_13 (takB_no b_23)]; rfl) | (rw [orN_f b_13 (takB_yes b_23)]; rfl)) rfl rfl
    · have b_13 := Bi_eq0 h_13
      have hi1 := hI i (by omega)
      refine M_aload_n (pc := 16) C dX8_isTaken_16 rfl (by decide) ?_
      refine M_iload (pc := 17) C dX8_isTaken_17 rfl ?_
      refine M_iload_n (pc := 19) C dX8_isTaken_19 rfl ?_
      refine A_cV (pc := 20) C (x := vI (Bi (hasT (v 85) i b))) (a := 84) (c := 8) (c_X8_hasTailIn hT hI (f := i) (b := b) (by omega) (by omega)) yw_X8_hasTailIn lk_X8_61 rfl (congrArg Prod.fst (tt_84 hT)) hc_8 rfl dX8_isTaken_20 rfl (Nat.le_of_ble_eq_true rfl) (by decide) ⟨Nat.le_refl _, Nat.le_refl _⟩ ?_
      refine M_if_eq (pc := 23) C (tgt := 60) (Bi_i32 _) dX8_isTaken_23 (by decide) (fun h_23 => ?_) (fun h_23 => ?_)
      · have b_23 := Bi_eq0 h_23
        refine M_iconst (pc := 60) C dX8_isTaken_60 ?_
        refine M_istore_n (pc := 61) C dX8_isTaken_61 (by decide) ?_
        refine M_iinc (pc := 62) C dX8_isTaken_62 rfl (by decide) ?_
        refine M_goto (pc := 65) C (tgt := 5) dX8_isTaken_65 (by decide) ?_
        exact M.to (ih (by omega)) (by first | (rw [orN_t b_13]; rfl) | (rw [orN_f b_13 (takB_no b_23)]; rfl) | (rw [orN_f b_13 (takB_yes b_23)]; rfl)) rfl rfl
      · have b_23 := Bi_ne0 h_23
        refine M_iload_n (pc := 26) C dX8_isTaken_26 rfl ?_
        refine M_aload_n (pc := 27) C dX8_isTaken_27 rfl (by decide) ?_
        refine M_iload (pc := 28) C dX8_isTaken_28 rfl ?_
        refine M_iconst (pc := 30) C dX8_isTaken_30 ?_
        refine A_cV (pc := 31) C (x := vI (ro (v 85) i 4)) (a := 84) (c := 8) (c_X8_of (f := i) (w := 4) hT (by omega)) yw_X8_of lk_X8_49 rfl (congrArg Prod.fst (tt_84 hT)) hc_8 rfl dX8_isTaken_31 rfl (Nat.le_of_ble_eq_true rfl) (by decide) ⟨Nat.le_refl _, Nat.le_refl _⟩ ?_
        refine M_rd (pc := 34) C 85 (27 + 18 * i + 4) (fun (r_31_0 : i32 (ro (v 85) i 4)) => ?_)
        refine M_aload_n (pc := 34) C dX8_isTaken_34 rfl (by decide) ?_
        refine M_iload (pc := 35) C dX8_isTaken_35 rfl ?_
        refine M_iconst (pc := 37) C dX8_isTaken_37 ?_
        refine A_cV (pc := 38) C (x := vI (ro (v 85) i 4)) (a := 84) (c := 8) (c_X8_of (f := i) (w := 4) hT (by omega)) yw_X8_of lk_X8_49 rfl (congrArg Prod.fst (tt_84 hT)) hc_8 rfl dX8_isTaken_38 rfl (Nat.le_of_ble_eq_true rfl) (by decide) ⟨Nat.le_refl _, Nat.le_refl _⟩ ?_
        refine M_rd (pc := 41) C 85 (27 + 18 * i + 4) (fun (r_38_0 : i32 (ro (v 85) i 4)) => ?_)
        refine M_aload_n (pc := 41) C dX8_isTaken_41 rfl (by decide) ?_
        refine M_iload (pc := 42) C dX8_isTaken_42 rfl ?_
        refine A_cV (pc := 44) C (x := vI (ro (v 85) i 1 % 16)) (a := 84) (c := 8) (c_X8_tailOf hT hI (f := i) (by omega)) yw_X8_tailOf lk_X8_57 rfl (congrArg Prod.fst (tt_84 hT)) hc_8 rfl dX8_isTaken_44 rfl (Nat.le_of_ble_eq_true rfl) (by decide) ⟨Nat.le_refl _, Nat.le_refl _⟩ ?_
        refine M_iadd (pc := 47) C dX8_isTaken_47 ?_
        refine M_iconst (pc := 48) C dX8_isTaken_48 ?_
        refine M_isub (pc := 49) C dX8_isTaken_49 ?_
        refine A_cS (pc := 50) C (x := vI (Bi (inB c (ro (v 85) i 4) (((ro (v 85) i 4) + (ro (v 85) i 1 % 16)) - 1)))) (c_X8_in hT (x := c) (a := ro (v 85) i 4) (b := ((ro (v 85) i 4) + (ro (v 85) i 1 % 16)) - 1) (by omega) (by omega) (by omega)) yw_X8_in lk_X8_45 rfl dX8_isTaken_50 rfl (Nat.le_of_ble_eq_true rfl) (by decide) ⟨Nat.le_refl _, Nat.le_refl _⟩ ?_
        refine T_eq (pc := 53) C dX8_isTaken_53 dX8_isTaken_56 dX8_isTaken_57 dX8_isTaken_60 ?_
        refine M_istore_n (pc := 61) C dX8_isTaken_61 (by decide) ?_
        refine M_iinc (pc := 62) C dX8_isTaken_62 rfl (by decide) ?_
        refine M_goto (pc := 65) C (tgt := 5) dX8_isTaken_65 (by decide) ?_
        exact M.to (ih (by omega)) (by first | (rw [orN_t b_13]; rfl) | (rw [orN_f b_13 (takB_no b_23)]; rfl) | (rw [orN_f b_13 (takB_yes b_23)]; rfl)) rfl rfl
