theorem c_X0_fileProperty {N : Nat} {T : Ty} {f w : Nat} {v : Ct} (hT : TT T) (hD : DI (v 5) (v 6) (v 7) (v 8)) (hf : f < 10) (hz : v 5 f ≠ -1) (hw : w < 7) : Runs mX0_fileProperty 1 0 0 [vR 1, vI ((f : Nat) : Int), vI ((w : Nat) : Int)] N T v (some (vI (fpN (v 5) (v 6) (v 7) (v 8) (v 9) f w))) N T v := by
  have hf1 := (hD f hf).1
  refine Runs.of (by decide) (Nat.le_of_ble_eq_true rfl) fun κ C => ?_
  refine M_aload_n (pc := 0) C dX0_fileProperty_0 rfl (by decide) ?_
  refine M_iload_n (pc := 1) C dX0_fileProperty_1 rfl ?_
  refine A_cV (pc := 2) C (x := vI (Bi (decide (v 5 f ≠ -1)))) (a := 1) (c := 0) (c_X0_exists_n hT (f := f) (by omega)) yw_X0_exists lk_X0_46 rfl (congrArg Prod.fst (tt_1 hT)) hc_0 rfl dX0_fileProperty_2 rfl (Nat.le_of_ble_eq_true rfl) (by decide) ⟨Nat.le_refl _, Nat.le_refl _⟩ ?_
  refine M_rd (pc := 5) C 5 f (fun (r_2_0 : i32 (v 5 f)) => ?_)
  refine M_if_ne (pc := 5) C (tgt := 10) (Bi_i32 _) dX0_fileProperty_5 (by decide) (fun h_5 => ?_) (fun h_5 => ?_)
  · have b_5 := Bid_ne0 h_5
    refine M_iload_n (pc := 10) C dX0_fileProperty_10 rfl ?_
    rcases (show w = 0 ∨ w = 1 ∨ w = 2 ∨ w = 3 ∨ w = 4 ∨ w = 5 ∨ w = 6 by omega) with rfl | rfl | rfl | rfl | rfl | rfl | rfl
    · refine M_tableIn (pc := 11) C (x := ((0 : Nat) : Int)) (off := 37) (tgt := 48) (by decide) (by decide) rfl dX0_fileProperty_11 (by decide) ?_
      refine M_aload_n (pc := 48) C dX0_fileProperty_48 rfl (by decide) ?_
      refine A_getR (pc := 49) C fl_X0_21 rfl (a := 1) (j := 5) rfl (tt_1 hT) (by decide) dX0_fileProperty_49 ?_
      refine M_iload_n (pc := 52) C dX0_fileProperty_52 rfl ?_
      refine A_iald (pc := 53) C (a := 5) (q := f) rfl (tt_5 hT) (by decide) rfl (by omega) dX0_fileProperty_53 (fun (r_53 : i32 (v 5 f)) => ?_)
      exact M_iret (pc := 54) C rfl dX0_fileProperty_54 rfl rfl
    · refine M_tableIn (pc := 11) C (x := ((1 : Nat) : Int)) (off := 44) (tgt := 55) (by decide) (by decide) rfl dX0_fileProperty_11 (by decide) ?_
      refine M_aload_n (pc := 55) C dX0_fileProperty_55 rfl (by decide) ?_
      refine A_getR (pc := 56) C fl_X0_21 rfl (a := 1) (j := 5) rfl (tt_1 hT) (by decide) dX0_fileProperty_56 ?_
      refine M_iload_n (pc := 59) C dX0_fileProperty_59 rfl ?_
      refine A_iald (pc := 60) C (a := 5) (q := f) rfl (tt_5 hT) (by decide) rfl (by omega) dX0_fileProperty_60 (fun (r_60 : i32 (v 5 f)) => ?_)
      refine M_bipush (pc := 61) C (by decide) dX0_fileProperty_61 ?_
      refine M_idiv (pc := 63) C (by omega) (by decide) dX0_fileProperty_63 ?_
      exact M_iret (pc := 64) C rfl dX0_fileProperty_64 rfl rfl
    · refine M_tableIn (pc := 11) C (x := ((2 : Nat) : Int)) (off := 54) (tgt := 65) (by decide) (by decide) rfl dX0_fileProperty_11 (by decide) ?_
      refine M_aload_n (pc := 65) C dX0_fileProperty_65 rfl (by decide) ?_
      refine A_getR (pc := 66) C fl_X0_21 rfl (a := 1) (j := 5) rfl (tt_1 hT) (by decide) dX0_fileProperty_66 ?_
      refine M_iload_n (pc := 69) C dX0_fileProperty_69 rfl ?_
      refine A_iald (pc := 70) C (a := 5) (q := f) rfl (tt_5 hT) (by decide) rfl (by omega) dX0_fileProperty_70 (fun (r_70 : i32 (v 5 f)) => ?_)
      refine M_bipush (pc := 71) C (by decide) dX0_fileProperty_71 ?_
      refine M_irem (pc := 73) C (by omega) (by decide) dX0_fileProperty_73 ?_
      exact M_iret (pc := 74) C rfl dX0_fileProperty_74 rfl rfl
    · refine M_tableIn (pc := 11) C (x := ((3 : Nat) : Int)) (off := 64) (tgt := 75) (by decide) (by decide) rfl dX0_fileProperty_11 (by decide) ?_
      refine M_aload_n (pc := 75) C dX0_fileProperty_75 rfl (by decide) ?_
      refine A_getR (pc := 76) C fl_X0_24 rfl (a := 1) (j := 6) rfl (tt_1 hT) (by decide) dX0_fileProperty_76 ?_
      refine M_iload_n (pc := 79) C dX0_fileProperty_79 rfl ?_
      refine A_iald (pc := 80) C (a := 6) (q := f) rfl (tt_6 hT) (by decide) rfl (by omega) dX0_fileProperty_80 (fun (r_80 : i32 (v 6 f)) => ?_)
      exact M_iret (pc := 81) C rfl dX0_fileProperty_81 rfl rfl
    · refine M_tableIn (pc := 11) C (x := ((4 : Nat) : Int)) (off := 71) (tgt := 82) (by decide) (by decide) rfl dX0_fileProperty_11 (by decide) ?_
      refine M_aload_n (pc := 82) C dX0_fileProperty_82 rfl (by decide) ?_
      refine A_getR (pc := 83) C fl_X0_27 rfl (a := 1) (j := 7) rfl (tt_1 hT) (by decide) dX0_fileProperty_83 ?_
      refine M_iload_n (pc := 86) C dX0_fileProperty_86 rfl ?_
      refine A_iald (pc := 87) C (a := 7) (q := f) rfl (tt_7 hT) (by decide) rfl (by omega) dX0_fileProperty_87 (fun (r_87 : i32 (v 7 f)) => ?_)
      exact M_iret (pc := 88) C rfl dX0_fileProperty_88 rfl rfl
    · refine M_tableIn (pc := 11) C (x := ((5 : Nat) : Int)) (off := 78) (tgt := 89) (by decide) (by decide) rfl dX0_fileProperty_11 (by decide) ?_
      refine M_aload_n (pc := 89) C dX0_fileProperty_89 rfl (by decide) ?_
      refine A_getR (pc := 90) C fl_X0_30 rfl (a := 1) (j := 8) rfl (tt_1 hT) (by decide) dX0_fileProperty_90 ?_
      refine M_iload_n (pc := 93) C dX0_fileProperty_93 rfl ?_
      refine A_iald (pc := 94) C (a := 8) (q := f) rfl (tt_8 hT) (by decide) rfl (by omega) dX0_fileProperty_94 (fun (r_94 : i32 (v 8 f)) => ?_)
      exact M_iret (pc := 95) C rfl dX0_fileProperty_95 rfl rfl
    · refine M_tableOut (pc := 11) C (x := ((6 : Nat) : Int)) (tgt := 96) (by decide) (by decide) dX0_fileProperty_11 (by decide) ?_
      refine M_aload_n (pc := 96) C dX0_fileProperty_96 rfl (by decide) ?_
      refine A_getR (pc := 97) C fl_X0_33 rfl (a := 1) (j := 9) rfl (tt_1 hT) (by decide) dX0_fileProperty_97 ?_
      refine M_iload_n (pc := 100) C dX0_fileProperty_100 rfl ?_
      refine A_iald (pc := 101) C (a := 9) (q := f) rfl (tt_9 hT) (by decide) rfl (by omega) dX0_fileProperty_101 (fun (r_101 : i32 (v 9 f)) => ?_)
      exact M_iret (pc := 102) C rfl dX0_fileProperty_102 rfl rfl
  · have b_5 := Bid_eq0 h_5
    exact absurd hz b_5
theorem c_X0_blockProperty {N : Nat} {T : Ty} {b w : Nat} {v : Ct} (hT : TT T) (hD : DI (v 5) (v 6) (v 7) (v 8)) (hb : b < 24) (hw : w < 5) : Runs mX0_blockProperty 3 0 0 [vR 1, vI ((b : Nat) : Int), vI ((w : Nat) : Int)] N T v (some (vI (bpN (v 2) (v 3) (v 5) (v 6) (v 7) b w))) N T v := by
  refine Runs.of (by decide) (Nat.le_of_ble_eq_true rfl) fun κ C => ?_
  refine M_iload_n (pc := 0) C dX0_blockProperty_0 rfl ?_
  refine A_cS (pc := 1) C (x := vI (Bi (decide (0 ≤ ((b : Nat) : Int) ∧ ((b : Nat) : Int) < 24)))) (c_X7_isBlock hT (b := ((b : Nat) : Int)) (by omega)) yw_X7_isBlock lk_X0_54 rfl dX0_blockProperty_1 rfl (Nat.le_of_ble_eq_true rfl) (by decide) ⟨Nat.le_refl _, Nat.le_refl _⟩ ?_
  refine M_if_ne (pc := 4) C (tgt := 9) (Bi_i32 _) dX0_blockProperty_4 (by decide) (fun h_4 => ?_) (fun h_4 => ?_)
  · have b_4 := Bid_ne0 h_4
    refine M_iload_n (pc := 9) C dX0_blockProperty_9 rfl ?_
    rcases (show w = 0 ∨ w = 1 ∨ w = 2 ∨ w = 3 ∨ w = 4 by omega) with rfl | rfl | rfl | rfl | rfl
    · refine M_tableIn (pc := 10) C (x := ((0 : Nat) : Int)) (off := 30) (tgt := 40) (by decide) (by decide) rfl dX0_blockProperty_10 (by decide) ?_
      refine M_aload_n (pc := 40) C dX0_blockProperty_40 rfl (by decide) ?_
      refine A_getR (pc := 41) C fl_X0_9 rfl (a := 1) (j := 2) rfl (tt_1 hT) (by decide) dX0_blockProperty_41 ?_
      refine M_iload_n (pc := 44) C dX0_blockProperty_44 rfl ?_
      refine A_iald (pc := 45) C (a := 2) (q := b) rfl (tt_2 hT) (by decide) rfl (by omega) dX0_blockProperty_45 (fun (r_45 : i32 (v 2 b)) => ?_)
      exact M_iret (pc := 46) C rfl dX0_blockProperty_46 (by first | rfl | exact congrArg vI (show bpN _ _ _ _ _ _ 3 = _ from if_pos (by omega)).symm | exact congrArg vI (show bpN _ _ _ _ _ _ 3 = _ from if_neg (by omega)).symm | exact congrArg vI (show bpN _ _ _ _ _ _ 4 = _ from if_pos (by omega)).symm | exact congrArg vI (show bpN _ _ _ _ _ _ 4 = _ from if_neg (by omega)).symm) rfl
    · refine M_tableIn (pc := 10) C (x := ((1 : Nat) : Int)) (off := 37) (tgt := 47) (by decide) (by decide) rfl dX0_blockProperty_10 (by decide) ?_
      refine M_aload_n (pc := 47) C dX0_blockProperty_47 rfl (by decide) ?_
      refine M_iload_n (pc := 48) C dX0_blockProperty_48 rfl ?_
      refine A_cV (pc := 49) C (x := vI (tnN (v 2) (v 6) b)) (a := 1) (c := 0) (c_X0_tailsIn hT (b := b) (by omega)) yw_X0_tailsIn lk_X0_60 rfl (congrArg Prod.fst (tt_1 hT)) hc_0 rfl dX0_blockProperty_49 rfl (Nat.le_of_ble_eq_true rfl) (by decide) ⟨Nat.le_refl _, Nat.le_refl _⟩ ?_
      exact M_iret (pc := 52) C rfl dX0_blockProperty_52 (by first | rfl | exact congrArg vI (show bpN _ _ _ _ _ _ 3 = _ from if_pos (by omega)).symm | exact congrArg vI (show bpN _ _ _ _ _ _ 3 = _ from if_neg (by omega)).symm | exact congrArg vI (show bpN _ _ _ _ _ _ 4 = _ from if_pos (by omega)).symm | exact congrArg vI (show bpN _ _ _ _ _ _ 4 = _ from if_neg (by omega)).symm) rfl
    · refine M_tableIn (pc := 10) C (x := ((2 : Nat) : Int)) (off := 43) (tgt := 53) (by decide) (by decide) rfl dX0_blockProperty_10 (by decide) ?_
      refine M_aload_n (pc := 53) C dX0_blockProperty_53 rfl (by decide) ?_
      refine M_iload_n (pc := 54) C dX0_blockProperty_54 rfl ?_
      refine A_cV (pc := 55) C (x := vI ((tcN (v 2) (v 5) (v 6) (v 7) b : Nat) : Int)) (a := 1) (c := 0) (c_X0_tailCellsIn hT hD (b := b) (by omega)) yw_X0_tailCellsIn lk_X0_57 rfl (congrArg Prod.fst (tt_1 hT)) hc_0 rfl dX0_blockProperty_55 rfl (Nat.le_of_ble_eq_true rfl) (by decide) ⟨Nat.le_refl _, Nat.le_refl _⟩ ?_
      have htc_55 := tcN_le (v 2) (v 5) (v 6) (v 7) b
      exact M_iret (pc := 58) C rfl dX0_blockProperty_58 (by first | rfl | exact congrArg vI (show bpN _ _ _ _ _ _ 3 = _ from if_pos (by omega)).symm | exact congrArg vI (show bpN _ _ _ _ _ _ 3 = _ from if_neg (by omega)).symm | exact congrArg vI (show bpN _ _ _ _ _ _ 4 = _ from if_pos (by omega)).symm | exact congrArg vI (show bpN _ _ _ _ _ _ 4 = _ from if_neg (by omega)).symm) rfl
    · refine M_tableIn (pc := 10) C (x := ((3 : Nat) : Int)) (off := 49) (tgt := 59) (by decide) (by decide) rfl dX0_blockProperty_10 (by decide) ?_
      refine M_aload_n (pc := 59) C dX0_blockProperty_59 rfl (by decide) ?_
      refine A_getR (pc := 60) C fl_X0_9 rfl (a := 1) (j := 2) rfl (tt_1 hT) (by decide) dX0_blockProperty_60 ?_
      refine M_iload_n (pc := 63) C dX0_blockProperty_63 rfl ?_
      refine A_iald (pc := 64) C (a := 2) (q := b) rfl (tt_2 hT) (by decide) rfl (by omega) dX0_blockProperty_64 (fun (r_64 : i32 (v 2 b)) => ?_)
      refine M_iconst (pc := 65) C dX0_blockProperty_65 ?_
      refine M_icmp_ne (pc := 66) C (tgt := 81) (by omega) (by omega) dX0_blockProperty_66 (by decide) (fun h_66 => ?_) (fun h_66 => ?_)
      · refine M_iconst (pc := 81) C dX0_blockProperty_81 ?_
        exact M_iret (pc := 82) C rfl dX0_blockProperty_82 (by first | rfl | exact congrArg vI (show bpN _ _ _ _ _ _ 3 = _ from if_pos (by omega)).symm | exact congrArg vI (show bpN _ _ _ _ _ _ 3 = _ from if_neg (by omega)).symm | exact congrArg vI (show bpN _ _ _ _ _ _ 4 = _ from if_pos (by omega)).symm | exact congrArg vI (show bpN _ _ _ _ _ _ 4 = _ from if_neg (by omega)).symm) rfl
      · refine M_aload_n (pc := 69) C dX0_blockProperty_69 rfl (by decide) ?_
        refine M_iload_n (pc := 70) C dX0_blockProperty_70 rfl ?_
        refine M_iconst (pc := 71) C dX0_blockProperty_71 ?_
        refine A_cV (pc := 72) C (x := vI ((tkA (v 5) (v 6) (v 7) ((b : Nat) : Int) (-1) : Nat) : Int)) (a := 1) (c := 0) (c_X0_takenCells hT hD (b := ((b : Nat) : Int)) (lo := -1) (by omega) (by omega) (by omega)) yw_X0_takenCells lk_X0_63 rfl (congrArg Prod.fst (tt_1 hT)) hc_0 rfl dX0_blockProperty_72 rfl (Nat.le_of_ble_eq_true rfl) (by decide) ⟨Nat.le_refl _, Nat.le_refl _⟩ ?_
        have htk_72 := tkA_bd (b := ((b : Nat) : Int)) (lo := -1) hD (by omega)
        refine A_cS (pc := 75) C (x := vI (((lgN ((tkA (v 5) (v 6) (v 7) ((b : Nat) : Int) (-1) : Nat) : Int) 16).1 : Nat) : Int)) (c_X0_longestGap hT (t := ((tkA (v 5) (v 6) (v 7) ((b : Nat) : Int) (-1) : Nat) : Int)) (by omega)) yw_X0_longestGap lk_X0_67 rfl dX0_blockProperty_75 rfl (Nat.le_of_ble_eq_true rfl) (by decide) ⟨Nat.le_refl _, Nat.le_refl _⟩ ?_
        have hlg_75 := lgN_bd ((tkA (v 5) (v 6) (v 7) ((b : Nat) : Int) (-1) : Nat) : Int) 16
        refine M_goto (pc := 78) C (tgt := 82) dX0_blockProperty_78 (by decide) ?_
        exact M_iret (pc := 82) C rfl dX0_blockProperty_82 (by first | rfl | exact congrArg vI (show bpN _ _ _ _ _ _ 3 = _ from if_pos (by omega)).symm | exact congrArg vI (show bpN _ _ _ _ _ _ 3 = _ from if_neg (by omega)).symm | exact congrArg vI (show bpN _ _ _ _ _ _ 4 = _ from if_pos (by omega)).symm | exact congrArg vI (show bpN _ _ _ _ _ _ 4 = _ from if_neg (by omega)).symm) rfl
    · refine M_tableOut (pc := 10) C (x := ((4 : Nat) : Int)) (tgt := 83) (by decide) (by decide) dX0_blockProperty_10 (by decide) ?_
      refine M_aload_n (pc := 83) C dX0_blockProperty_83 rfl (by decide) ?_
      refine A_getR (pc := 84) C fl_X0_9 rfl (a := 1) (j := 2) rfl (tt_1 hT) (by decide) dX0_blockProperty_84 ?_
      refine M_iload_n (pc := 87) C dX0_blockProperty_87 rfl ?_
      refine A_iald (pc := 88) C (a := 2) (q := b) rfl (tt_2 hT) (by decide) rfl (by omega) dX0_blockProperty_88 (fun (r_88 : i32 (v 2 b)) => ?_)
      refine M_iconst (pc := 89) C dX0_blockProperty_89 ?_
      refine M_icmp_ne (pc := 90) C (tgt := 102) (by omega) (by omega) dX0_blockProperty_90 (by decide) (fun h_90 => ?_) (fun h_90 => ?_)
      · refine M_iconst (pc := 102) C dX0_blockProperty_102 ?_
        exact M_iret (pc := 103) C rfl dX0_blockProperty_103 (by first | rfl | exact congrArg vI (show bpN _ _ _ _ _ _ 3 = _ from if_pos (by omega)).symm | exact congrArg vI (show bpN _ _ _ _ _ _ 3 = _ from if_neg (by omega)).symm | exact congrArg vI (show bpN _ _ _ _ _ _ 4 = _ from if_pos (by omega)).symm | exact congrArg vI (show bpN _ _ _ _ _ _ 4 = _ from if_neg (by omega)).symm) rfl
      · refine M_aload_n (pc := 93) C dX0_blockProperty_93 rfl (by decide) ?_
        refine A_getR (pc := 94) C fl_X0_15 rfl (a := 1) (j := 3) rfl (tt_1 hT) (by decide) dX0_blockProperty_94 ?_
        refine M_iload_n (pc := 97) C dX0_blockProperty_97 rfl ?_
        refine A_iald (pc := 98) C (a := 3) (q := b) rfl (tt_3 hT) (by decide) rfl (by omega) dX0_blockProperty_98 (fun (r_98 : i32 (v 3 b)) => ?_)
        refine M_goto (pc := 99) C (tgt := 103) dX0_blockProperty_99 (by decide) ?_
        exact M_iret (pc := 103) C rfl dX0_blockProperty_103 (by first | rfl | exact congrArg vI (show bpN _ _ _ _ _ _ 3 = _ from if_pos (by omega)).symm | exact congrArg vI (show bpN _ _ _ _ _ _ 3 = _ from if_neg (by omega)).symm | exact congrArg vI (show bpN _ _ _ _ _ _ 4 = _ from if_pos (by omega)).symm | exact congrArg vI (show bpN _ _ _ _ _ _ 4 = _ from if_neg (by omega)).symm) rfl
  · have b_4 := Bid_eq0 h_4
    exfalso
    omega
theorem c_X0_cellsBehindTail {N : Nat} {T : Ty} {f : Nat} {v : Ct} (hT : TT T) (hD : DI (v 5) (v 6) (v 7) (v 8)) (hf : f < 10) : Runs mX0_cellsBehindTail 2 0 0 [vR 1, vI ((f : Nat) : Int)] N T v (some (vI ((cbN (v 5) (v 6) (v 7) f : Nat) : Int))) N T v := by
  have hf1 := hD f hf
  refine Runs.of (by decide) (Nat.le_of_ble_eq_true rfl) fun κ C => ?_
  refine M_aload_n (pc := 0) C dX0_cellsBehindTail_0 rfl (by decide) ?_
  refine M_iload_n (pc := 1) C dX0_cellsBehindTail_1 rfl ?_
  refine A_cV (pc := 2) C (x := vI (Bi (decide (v 5 f ≠ -1)))) (a := 1) (c := 0) (c_X0_exists_n hT (f := f) (by omega)) yw_X0_exists lk_X0_46 rfl (congrArg Prod.fst (tt_1 hT)) hc_0 rfl dX0_cellsBehindTail_2 rfl (Nat.le_of_ble_eq_true rfl) (by decide) ⟨Nat.le_refl _, Nat.le_refl _⟩ ?_
  refine M_rd (pc := 5) C 5 f (fun (r_2_0 : i32 (v 5 f)) => ?_)
  refine M_if_eq (pc := 5) C (tgt := 18) (Bi_i32 _) dX0_cellsBehindTail_5 (by decide) (fun h_5 => ?_) (fun h_5 => ?_)
  · have b_5 := Bid_eq0 h_5
    have hc0 : cbN (v 5) (v 6) (v 7) f = 0 := by unfold cbN; rw [if_pos (by omega)]
    refine M_iconst (pc := 18) C dX0_cellsBehindTail_18 ?_
    exact M_iret (pc := 19) C rfl dX0_cellsBehindTail_19 (by rw [hc0]; rfl) rfl
  · have b_5 := Bid_ne0 h_5
    refine M_aload_n (pc := 8) C dX0_cellsBehindTail_8 rfl (by decide) ?_
    refine A_getR (pc := 9) C fl_X0_24 rfl (a := 1) (j := 6) rfl (tt_1 hT) (by decide) dX0_cellsBehindTail_9 ?_
    refine M_iload_n (pc := 12) C dX0_cellsBehindTail_12 rfl ?_
    refine A_iald (pc := 13) C (a := 6) (q := f) rfl (tt_6 hT) (by decide) rfl (by omega) dX0_cellsBehindTail_13 (fun (r_13 : i32 (v 6 f)) => ?_)
    refine M_iconst (pc := 14) C dX0_cellsBehindTail_14 ?_
    refine M_icmp_ne (pc := 15) C (tgt := 20) (by omega) (by omega) dX0_cellsBehindTail_15 (by decide) (fun h_15 => ?_) (fun h_15 => ?_)
    · refine M_aload_n (pc := 20) C dX0_cellsBehindTail_20 rfl (by decide) ?_
      refine M_aload_n (pc := 21) C dX0_cellsBehindTail_21 rfl (by decide) ?_
      refine A_getR (pc := 22) C fl_X0_24 rfl (a := 1) (j := 6) rfl (tt_1 hT) (by decide) dX0_cellsBehindTail_22 ?_
      refine M_iload_n (pc := 25) C dX0_cellsBehindTail_25 rfl ?_
      refine A_iald (pc := 26) C (a := 6) (q := f) rfl (tt_6 hT) (by decide) rfl (by omega) dX0_cellsBehindTail_26 (fun (r_26 : i32 (v 6 f)) => ?_)
      refine M_iconst (pc := 27) C dX0_cellsBehindTail_27 ?_
      obtain ⟨hD1, hD2, hD3, hD4⟩ := hf1.2.1 (by omega)
      refine A_cV (pc := 28) C (x := vI ((tkA (v 5) (v 6) (v 7) (v 6 f) (-1) : Nat) : Int)) (a := 1) (c := 0) (c_X0_takenCells hT hD (b := v 6 f) (lo := -1) (by omega) (by omega) (by omega)) yw_X0_takenCells lk_X0_63 rfl (congrArg Prod.fst (tt_1 hT)) hc_0 rfl dX0_cellsBehindTail_28 rfl (Nat.le_of_ble_eq_true rfl) (by decide) ⟨Nat.le_refl _, Nat.le_refl _⟩ ?_
      have htk_28 := tkA_bd (b := v 6 f) (lo := -1) hD (by omega)
      refine M_istore_n (pc := 31) C dX0_cellsBehindTail_31 (by decide) ?_
      refine M_iload_n (pc := 32) C dX0_cellsBehindTail_32 rfl ?_
      refine M_aload_n (pc := 33) C dX0_cellsBehindTail_33 rfl (by decide) ?_
      refine A_getR (pc := 34) C fl_X0_27 rfl (a := 1) (j := 7) rfl (tt_1 hT) (by decide) dX0_cellsBehindTail_34 ?_
      refine M_iload_n (pc := 37) C dX0_cellsBehindTail_37 rfl ?_
      refine A_iald (pc := 38) C (a := 7) (q := f) rfl (tt_7 hT) (by decide) rfl (by omega) dX0_cellsBehindTail_38 (fun (r_38 : i32 (v 7 f)) => ?_)
      refine M_aload_n (pc := 39) C dX0_cellsBehindTail_39 rfl (by decide) ?_
      refine A_getR (pc := 40) C fl_X0_21 rfl (a := 1) (j := 5) rfl (tt_1 hT) (by decide) dX0_cellsBehindTail_40 ?_
      refine M_iload_n (pc := 43) C dX0_cellsBehindTail_43 rfl ?_
      refine A_iald (pc := 44) C (a := 5) (q := f) rfl (tt_5 hT) (by decide) rfl (by omega) dX0_cellsBehindTail_44 (fun (r_44 : i32 (v 5 f)) => ?_)
      refine M_bipush (pc := 45) C (by decide) dX0_cellsBehindTail_45 ?_
      refine M_irem (pc := 47) C (by omega) (by decide) dX0_cellsBehindTail_47 ?_
      refine M_iadd (pc := 48) C dX0_cellsBehindTail_48 ?_
      refine M.to (st2 := [vI (((v 7 f + v 5 f % 16).toNat : Nat) : Int), vI ((tkA (v 5) (v 6) (v 7) (v 6 f) (-1) : Nat) : Int)]) ?_ rfl (by rw [Int.toNat_of_nonneg (by omega)]) rfl
      refine A_cS (pc := 49) C (x := vI ((gapL ((tkA (v 5) (v 6) (v 7) (v 6 f) (-1) : Nat) : Int) ((v 7 f + v 5 f % 16).toNat) : Nat) : Int)) (c_X0_gapFrom hT (t := ((tkA (v 5) (v 6) (v 7) (v 6 f) (-1) : Nat) : Int)) (c := (v 7 f + v 5 f % 16).toNat) (by omega) (by omega)) yw_X0_gapFrom lk_X0_91 rfl dX0_cellsBehindTail_49 rfl (Nat.le_of_ble_eq_true rfl) (by decide) ⟨Nat.le_refl _, Nat.le_refl _⟩ ?_
      have hgl_49 := gapLen_le (btB ((tkA (v 5) (v 6) (v 7) (v 6 f) (-1) : Nat) : Int)) (16 - ((v 7 f + v 5 f % 16).toNat)) ((v 7 f + v 5 f % 16).toNat)
      exact M_iret (pc := 52) C rfl dX0_cellsBehindTail_52 (by unfold cbN; rw [if_neg (by omega)]) rfl
    · have hc0 : cbN (v 5) (v 6) (v 7) f = 0 := by unfold cbN; rw [if_pos (by omega)]
      refine M_iconst (pc := 18) C dX0_cellsBehindTail_18 ?_
      exact M_iret (pc := 19) C rfl dX0_cellsBehindTail_19 (by rw [hc0]; rfl) rfl
theorem c_X0_isEnough {N : Nat} {T : Ty} {w t lo : Int} {v : Ct} (hT : TT T) (hD : DI (v 5) (v 6) (v 7) (v 8)) (hw : i32 w) (ht : i32 t) (hlo : i32 lo) : Runs mX0_isEnough 2 0 0 [vR 1, vI w, vI t, vI lo] N T v (some (vI (Bi (ieB (v 2) (v 5) (v 6) (v 7) w t lo)))) N T v := by
  refine Runs.of (by decide) (Nat.le_of_ble_eq_true rfl) fun κ C => ?_
  refine M_iconst (pc := 0) C dX0_isEnough_0 ?_
  refine M_istore (pc := 1) C dX0_isEnough_1 (by decide) ?_
  refine M_iconst (pc := 3) C dX0_isEnough_3 ?_
  refine M_istore (pc := 4) C dX0_isEnough_4 (by decide) ?_
  refine M_iconst (pc := 6) C dX0_isEnough_6 ?_
  refine M_istore (pc := 7) C dX0_isEnough_7 (by decide) ?_
  refine loop_le (P := fun i => M κ N T 9 [some (vR 1), some (vI w), some (vI t), some (vI lo), some (vI (((ieN (v 2) (v 5) (v 6) (v 7) lo i).1 : Nat) : Int)), some (vI (((ieN (v 2) (v 5) (v 6) (v 7) lo i).2 : Nat) : Int)), some (vI ((i : Nat) : Int)), none] [] v 0 0 (QR κ (some (vI (Bi (ieB (v 2) (v 5) (v 6) (v 7) w t lo)))) N T v 0 0)) 24 (fun i hi ih => ?_)
  have hie := ieN_bd (v 2) (v 5) (v 6) (v 7) lo i
  refine M_iload (pc := 9) C dX0_isEnough_9 rfl ?_
  refine M_bipush (pc := 11) C (by decide) dX0_isEnough_11 ?_
  refine M_icmp_ge (pc := 13) C (tgt := 90) (by omega) (by omega) dX0_isEnough_13 (by decide) (fun h_13 => ?_) (fun h_13 => ?_)
  · have hi24 : i = 24 := by omega
    refine M_iload (pc := 90) C dX0_isEnough_90 rfl ?_
    refine M_iload_n (pc := 92) C dX0_isEnough_92 rfl ?_
    refine M_icmp_gt (pc := 93) C (tgt := 108) (by omega) (by omega) dX0_isEnough_93 (by decide) (fun h_93 => ?_) (fun h_93 => ?_)
    · refine M_iconst (pc := 108) C dX0_isEnough_108 ?_
      refine M_goto (pc := 109) C (tgt := 113) dX0_isEnough_109 (by decide) ?_
      exact M_zret (pc := 113) C rfl (Or.inr rfl) dX0_isEnough_113 (by unfold ieB; rw [← hi24]; first | (rw [decide_eq_true (by omega)]; rfl) | (rw [decide_eq_false (by omega)]; rfl)) rfl
    · refine M_iload (pc := 96) C dX0_isEnough_96 rfl ?_
      refine M_iload_n (pc := 98) C dX0_isEnough_98 rfl ?_
      refine M_icmp_ne (pc := 99) C (tgt := 112) (by omega) (by omega) dX0_isEnough_99 (by decide) (fun h_99 => ?_) (fun h_99 => ?_)
      · refine M_iconst (pc := 112) C dX0_isEnough_112 ?_
        exact M_zret (pc := 113) C rfl (Or.inl rfl) dX0_isEnough_113 (by unfold ieB; rw [← hi24]; first | (rw [decide_eq_true (by omega)]; rfl) | (rw [decide_eq_false (by omega)]; rfl)) rfl
      · refine M_iload_n (pc := 102) C dX0_isEnough_102 rfl ?_
        refine M_iload (pc := 103) C dX0_isEnough_103 rfl ?_
        refine M_icmp_gt (pc := 105) C (tgt := 112) (by omega) (by omega) dX0_isEnough_105 (by decide) (fun h_105 => ?_) (fun h_105 => ?_)
        · refine M_iconst (pc := 112) C dX0_isEnough_112 ?_
          exact M_zret (pc := 113) C rfl (Or.inl rfl) dX0_isEnough_113 (by unfold ieB; rw [← hi24]; first | (rw [decide_eq_true (by omega)]; rfl) | (rw [decide_eq_false (by omega)]; rfl)) rfl
        · refine M_iconst (pc := 108) C dX0_isEnough_108 ?_
          refine M_goto (pc := 109) C (tgt := 113) dX0_isEnough_109 (by decide) ?_
          exact M_zret (pc := 113) C rfl (Or.inr rfl) dX0_isEnough_113 (by unfold ieB; rw [← hi24]; first | (rw [decide_eq_true (by omega)]; rfl) | (rw [decide_eq_false (by omega)]; rfl)) rfl
  · refine M_aload_n (pc := 16) C dX0_isEnough_16 rfl (by decide) ?_
    refine A_getR (pc := 17) C fl_X0_9 rfl (a := 1) (j := 2) rfl (tt_1 hT) (by decide) dX0_isEnough_17 ?_
    refine M_iload (pc := 20) C dX0_isEnough_20 rfl ?_
    refine A_iald (pc := 22) C (a := 2) (q := i) rfl (tt_2 hT) (by decide) rfl (by omega) dX0_isEnough_22 (fun (r_22 : i32 (v 2 i)) => ?_)
    refine M_iconst (pc := 23) C dX0_isEnough_23 ?_
    refine M_icmp_ne (pc := 24) C (tgt := 37) (by omega) (by omega) dX0_isEnough_24 (by decide) (fun h_24 => ?_) (fun h_24 => ?_)
    · have hiT : ieT (v 2) (v 5) (v 6) (v 7) lo i = 0 := if_neg h_24
      refine M_iconst (pc := 37) C dX0_isEnough_37 ?_
      refine M.to (st2 := [vI ((ieT (v 2) (v 5) (v 6) (v 7) lo i : Nat) : Int)]) ?_ rfl (by rw [hiT] <;> rfl) rfl
      have hib : ieT (v 2) (v 5) (v 6) (v 7) lo i < 65536 := by rw [hiT]; omega
      refine M_istore (pc := 38) C dX0_isEnough_38 (by decide) ?_
      refine M_iload (pc := 40) C dX0_isEnough_40 rfl ?_
      refine M_if_eq (pc := 42) C (tgt := 60) (by omega) dX0_isEnough_42 (by decide) (fun h_42 => ?_) (fun h_42 => ?_)
      · refine M_aload_n (pc := 60) C dX0_isEnough_60 rfl (by decide) ?_
        refine A_getR (pc := 61) C fl_X0_9 rfl (a := 1) (j := 2) rfl (tt_1 hT) (by decide) dX0_isEnough_61 ?_
        refine M_iload (pc := 64) C dX0_isEnough_64 rfl ?_
        refine A_iald (pc := 66) C (a := 2) (q := i) rfl (tt_2 hT) (by decide) rfl (by omega) dX0_isEnough_66 (fun (r_66 : i32 (v 2 i)) => ?_)
        refine M_if_eq (pc := 67) C (tgt := 81) (by omega) dX0_isEnough_67 (by decide) (fun h_67 => ?_) (fun h_67 => ?_)
        · have hE : ieN (v 2) (v 5) (v 6) (v 7) lo (i + 1) = ((ieN (v 2) (v 5) (v 6) (v 7) lo i).1 + 1, (ieN (v 2) (v 5) (v 6) (v 7) lo i).2) := (if_neg (by omega)).trans (if_pos (Or.inl h_67))
          refine M_iinc (pc := 81) C dX0_isEnough_81 rfl (by decide) ?_
          refine M_iinc (pc := 84) C dX0_isEnough_84 rfl (by decide) ?_
          refine M_goto (pc := 87) C (tgt := 9) dX0_isEnough_87 (by decide) ?_
          refine M.drop [true, true, true, true, true, true, true, false] rfl ?_
          exact M.to (ih (by omega)) (by rw [hE]; rfl) rfl rfl
        · refine M_aload_n (pc := 70) C dX0_isEnough_70 rfl (by decide) ?_
          refine A_getR (pc := 71) C fl_X0_9 rfl (a := 1) (j := 2) rfl (tt_1 hT) (by decide) dX0_isEnough_71 ?_
          refine M_iload (pc := 74) C dX0_isEnough_74 rfl ?_
          refine A_iald (pc := 76) C (a := 2) (q := i) rfl (tt_2 hT) (by decide) rfl (by omega) dX0_isEnough_76 (fun (r_76 : i32 (v 2 i)) => ?_)
          refine M_iconst (pc := 77) C dX0_isEnough_77 ?_
          refine M_icmp_ne (pc := 78) C (tgt := 84) (by omega) (by omega) dX0_isEnough_78 (by decide) (fun h_78 => ?_) (fun h_78 => ?_)
          · have hE : ieN (v 2) (v 5) (v 6) (v 7) lo (i + 1) = ieN (v 2) (v 5) (v 6) (v 7) lo i := (if_neg (by omega)).trans (if_neg (by omega))
            refine M_iinc (pc := 84) C dX0_isEnough_84 rfl (by decide) ?_
            refine M_goto (pc := 87) C (tgt := 9) dX0_isEnough_87 (by decide) ?_
            refine M.drop [true, true, true, true, true, true, true, false] rfl ?_
            exact M.to (ih (by omega)) (by rw [hE]; rfl) rfl rfl
          · have hE : ieN (v 2) (v 5) (v 6) (v 7) lo (i + 1) = ((ieN (v 2) (v 5) (v 6) (v 7) lo i).1 + 1, (ieN (v 2) (v 5) (v 6) (v 7) lo i).2) := (if_neg (by omega)).trans (if_pos (Or.inr h_78))
            refine M_iinc (pc := 81) C dX0_isEnough_81 rfl (by decide) ?_
            refine M_iinc (pc := 84) C dX0_isEnough_84 rfl (by decide) ?_
            refine M_goto (pc := 87) C (tgt := 9) dX0_isEnough_87 (by decide) ?_
            refine M.drop [true, true, true, true, true, true, true, false] rfl ?_
            exact M.to (ih (by omega)) (by rw [hE]; rfl) rfl rfl
      · have hE : ieN (v 2) (v 5) (v 6) (v 7) lo (i + 1) = ((ieN (v 2) (v 5) (v 6) (v 7) lo i).1, max (ieN (v 2) (v 5) (v 6) (v 7) lo i).2 (lgN ((ieT (v 2) (v 5) (v 6) (v 7) lo i : Nat) : Int) 16).1) := if_pos (by omega)
        refine M_iload (pc := 45) C dX0_isEnough_45 rfl ?_
        refine M_iload (pc := 47) C dX0_isEnough_47 rfl ?_
        refine A_cS (pc := 49) C (x := vI (((lgN ((ieT (v 2) (v 5) (v 6) (v 7) lo i : Nat) : Int) 16).1 : Nat) : Int)) (c_X0_longestGap hT (t := ((ieT (v 2) (v 5) (v 6) (v 7) lo i : Nat) : Int)) (by omega)) yw_X0_longestGap lk_X0_67 rfl dX0_isEnough_49 rfl (Nat.le_of_ble_eq_true rfl) (by decide) ⟨Nat.le_refl _, Nat.le_refl _⟩ ?_
        have hlg_49 := lgN_bd ((ieT (v 2) (v 5) (v 6) (v 7) lo i : Nat) : Int) 16
        refine M_max (pc := 52) C (a := ((ieN (v 2) (v 5) (v 6) (v 7) lo i).2)) (b0 := ((lgN ((ieT (v 2) (v 5) (v 6) (v 7) lo i : Nat) : Int) 16).1)) (by omega) (by omega) mx_l dX0_isEnough_52 (by decide) (Nat.le_of_ble_eq_true rfl) ⟨Nat.le_refl _, Nat.le_refl _⟩ mx_s mx_i mx_c ?_
        refine M_istore (pc := 55) C dX0_isEnough_55 (by decide) ?_
        refine M_goto (pc := 57) C (tgt := 84) dX0_isEnough_57 (by decide) ?_
        refine M_iinc (pc := 84) C dX0_isEnough_84 rfl (by decide) ?_
        refine M_goto (pc := 87) C (tgt := 9) dX0_isEnough_87 (by decide) ?_
        refine M.drop [true, true, true, true, true, true, true, false] rfl ?_
        exact M.to (ih (by omega)) (by rw [hE]; rfl) rfl rfl
    · have hiT : ieT (v 2) (v 5) (v 6) (v 7) lo i = tkA (v 5) (v 6) (v 7) ((i : Nat) : Int) lo := if_pos h_24
      refine M_aload_n (pc := 27) C dX0_isEnough_27 rfl (by decide) ?_
      refine M_iload (pc := 28) C dX0_isEnough_28 rfl ?_
      refine M_iload_n (pc := 30) C dX0_isEnough_30 rfl ?_
      refine A_cV (pc := 31) C (x := vI ((tkA (v 5) (v 6) (v 7) ((i : Nat) : Int) lo : Nat) : Int)) (a := 1) (c := 0) (c_X0_takenCells hT hD (b := ((i : Nat) : Int)) (lo := lo) (by omega) (by omega) (by omega)) yw_X0_takenCells lk_X0_63 rfl (congrArg Prod.fst (tt_1 hT)) hc_0 rfl dX0_isEnough_31 rfl (Nat.le_of_ble_eq_true rfl) (by decide) ⟨Nat.le_refl _, Nat.le_refl _⟩ ?_
      have htk_31 := tkA_bd (b := ((i : Nat) : Int)) (lo := lo) hD (by omega)
      refine M_goto (pc := 34) C (tgt := 38) dX0_isEnough_34 (by decide) ?_
      refine M.to (st2 := [vI ((ieT (v 2) (v 5) (v 6) (v 7) lo i : Nat) : Int)]) ?_ rfl (by rw [hiT] <;> rfl) rfl
      have hib : ieT (v 2) (v 5) (v 6) (v 7) lo i < 65536 := by rw [hiT]; omega
      refine M_istore (pc := 38) C dX0_isEnough_38 (by decide) ?_
      refine M_iload (pc := 40) C dX0_isEnough_40 rfl ?_
      refine M_if_eq (pc := 42) C (tgt := 60) (by omega) dX0_isEnough_42 (by decide) (fun h_42 => ?_) (fun h_42 => ?_)
      · refine M_aload_n (pc := 60) C dX0_isEnough_60 rfl (by decide) ?_
        refine A_getR (pc := 61) C fl_X0_9 rfl (a := 1) (j := 2) rfl (tt_1 hT) (by decide) dX0_isEnough_61 ?_
        refine M_iload (pc := 64) C dX0_isEnough_64 rfl ?_
        refine A_iald (pc := 66) C (a := 2) (q := i) rfl (tt_2 hT) (by decide) rfl (by omega) dX0_isEnough_66 (fun (r_66 : i32 (v 2 i)) => ?_)
        refine M_if_eq (pc := 67) C (tgt := 81) (by omega) dX0_isEnough_67 (by decide) (fun h_67 => ?_) (fun h_67 => ?_)
        · have hE : ieN (v 2) (v 5) (v 6) (v 7) lo (i + 1) = ((ieN (v 2) (v 5) (v 6) (v 7) lo i).1 + 1, (ieN (v 2) (v 5) (v 6) (v 7) lo i).2) := (if_neg (by omega)).trans (if_pos (Or.inl h_67))
          refine M_iinc (pc := 81) C dX0_isEnough_81 rfl (by decide) ?_
          refine M_iinc (pc := 84) C dX0_isEnough_84 rfl (by decide) ?_
          refine M_goto (pc := 87) C (tgt := 9) dX0_isEnough_87 (by decide) ?_
          refine M.drop [true, true, true, true, true, true, true, false] rfl ?_
          exact M.to (ih (by omega)) (by rw [hE]; rfl) rfl rfl
        · refine M_aload_n (pc := 70) C dX0_isEnough_70 rfl (by decide) ?_
          refine A_getR (pc := 71) C fl_X0_9 rfl (a := 1) (j := 2) rfl (tt_1 hT) (by decide) dX0_isEnough_71 ?_
          refine M_iload (pc := 74) C dX0_isEnough_74 rfl ?_
          refine A_iald (pc := 76) C (a := 2) (q := i) rfl (tt_2 hT) (by decide) rfl (by omega) dX0_isEnough_76 (fun (r_76 : i32 (v 2 i)) => ?_)
          refine M_iconst (pc := 77) C dX0_isEnough_77 ?_
          refine M_icmp_ne (pc := 78) C (tgt := 84) (by omega) (by omega) dX0_isEnough_78 (by decide) (fun h_78 => ?_) (fun h_78 => ?_)
          · have hE : ieN (v 2) (v 5) (v 6) (v 7) lo (i + 1) = ieN (v 2) (v 5) (v 6) (v 7) lo i := (if_neg (by omega)).trans (if_neg (by omega))
            refine M_iinc (pc := 84) C dX0_isEnough_84 rfl (by decide) ?_
            refine M_goto (pc := 87) C (tgt := 9) dX0_isEnough_87 (by decide) ?_
            refine M.drop [true, true, true, true, true, true, true, false] rfl ?_
            exact M.to (ih (by omega)) (by rw [hE]; rfl) rfl rfl
          · have hE : ieN (v 2) (v 5) (v 6) (v 7) lo (i + 1) = ((ieN (v 2) (v 5) (v 6) (v 7) lo i).1 + 1, (ieN (v 2) (v 5) (v 6) (v 7) lo i).2) := (if_neg (by omega)).trans (if_pos (Or.inr h_78))
            refine M_iinc (pc := 81) C dX0_isEnough_81 rfl (by decide) ?_
            refine M_iinc (pc := 84) C dX0_isEnough_84 rfl (by decide) ?_
            refine M_goto (pc := 87) C (tgt := 9) dX0_isEnough_87 (by decide) ?_
            refine M.drop [true, true, true, true, true, true, true, false] rfl ?_
            exact M.to (ih (by omega)) (by rw [hE]; rfl) rfl rfl
      · have hE : ieN (v 2) (v 5) (v 6) (v 7) lo (i + 1) = ((ieN (v 2) (v 5) (v 6) (v 7) lo i).1, max (ieN (v 2) (v 5) (v 6) (v 7) lo i).2 (lgN ((ieT (v 2) (v 5) (v 6) (v 7) lo i : Nat) : Int) 16).1) := if_pos (by omega)
        refine M_iload (pc := 45) C dX0_isEnough_45 rfl ?_
        refine M_iload (pc := 47) C dX0_isEnough_47 rfl ?_
        refine A_cS (pc := 49) C (x := vI (((lgN ((ieT (v 2) (v 5) (v 6) (v 7) lo i : Nat) : Int) 16).1 : Nat) : Int)) (c_X0_longestGap hT (t := ((ieT (v 2) (v 5) (v 6) (v 7) lo i : Nat) : Int)) (by omega)) yw_X0_longestGap lk_X0_67 rfl dX0_isEnough_49 rfl (Nat.le_of_ble_eq_true rfl) (by decide) ⟨Nat.le_refl _, Nat.le_refl _⟩ ?_
        have hlg_49 := lgN_bd ((ieT (v 2) (v 5) (v 6) (v 7) lo i : Nat) : Int) 16
        refine M_max (pc := 52) C (a := ((ieN (v 2) (v 5) (v 6) (v 7) lo i).2)) (b0 := ((lgN ((ieT (v 2) (v 5) (v 6) (v 7) lo i : Nat) : Int) 16).1)) (by omega) (by omega) mx_l dX0_isEnough_52 (by decide) (Nat.le_of_ble_eq_true rfl) ⟨Nat.le_refl _, Nat.le_refl _⟩ mx_s mx_i mx_c ?_
        refine M_istore (pc := 55) C dX0_isEnough_55 (by decide) ?_
        refine M_goto (pc := 57) C (tgt := 84) dX0_isEnough_57 (by decide) ?_
        refine M_iinc (pc := 84) C dX0_isEnough_84 rfl (by decide) ?_
        refine M_goto (pc := 87) C (tgt := 9) dX0_isEnough_87 (by decide) ?_
        refine M.drop [true, true, true, true, true, true, true, false] rfl ?_
        exact M.to (ih (by omega)) (by rw [hE]; rfl) rfl rfl
theorem c_X0_hasRoomFor {N : Nat} {T : Ty} {s : Int} {v : Ct} (hT : TT T) (hD : DI (v 5) (v 6) (v 7) (v 8)) (hs : 0 ≤ s ∧ s ≤ 200) : Runs mX0_hasRoomFor 3 0 0 [vR 1, vI s] N T v (some (vI (Bi (hrB (v 2) (v 5) (v 6) (v 7) s)))) N T v := by
  refine Runs.of (by decide) (Nat.le_of_ble_eq_true rfl) fun κ C => ?_
  refine M_aload_n (pc := 0) C dX0_hasRoomFor_0 rfl (by decide) ?_
  refine A_cV (pc := 1) C (x := vI (lnN (v 5))) (a := 1) (c := 0) (c_X0_lowestNumber hT) yw_X0_lowestNumber lk_X0_98 rfl (congrArg Prod.fst (tt_1 hT)) hc_0 rfl dX0_hasRoomFor_1 rfl (Nat.le_of_ble_eq_true rfl) (by decide) ⟨Nat.le_refl _, Nat.le_refl _⟩ ?_
  have hln_1 := lnN_bd (v 5)
  refine M_iconst (pc := 4) C dX0_hasRoomFor_4 ?_
  refine M_icmp_eq (pc := 5) C (tgt := 28) (by omega) (by omega) dX0_hasRoomFor_5 (by decide) (fun h_5 => ?_) (fun h_5 => ?_)
  · refine M_iconst (pc := 28) C dX0_hasRoomFor_28 ?_
    exact M_zret (pc := 29) C rfl (Or.inl rfl) dX0_hasRoomFor_29 (by unfold hrB; first | (rw [decide_eq_false (p := lnN (v 5) ≠ -1) (by omega), Bool.false_and]; rfl) | (rw [decide_eq_true (p := lnN (v 5) ≠ -1) (by omega), Bool.true_and, b_17]; rfl) | (rw [decide_eq_true (p := lnN (v 5) ≠ -1) (by omega), Bool.true_and])) rfl
  · refine M_aload_n (pc := 8) C dX0_hasRoomFor_8 rfl (by decide) ?_
    refine M_iload_n (pc := 9) C dX0_hasRoomFor_9 rfl ?_
    refine M_bipush (pc := 10) C (by decide) dX0_hasRoomFor_10 ?_
    refine M_idiv (pc := 12) C (by omega) (by decide) dX0_hasRoomFor_12 ?_
    refine M_iload_n (pc := 13) C dX0_hasRoomFor_13 rfl ?_
    refine M_bipush (pc := 14) C (by decide) dX0_hasRoomFor_14 ?_
    refine M_irem (pc := 16) C (by omega) (by decide) dX0_hasRoomFor_16 ?_
    refine M_iconst (pc := 17) C dX0_hasRoomFor_17 ?_
    refine A_cV (pc := 18) C (x := vI (Bi (ieB (v 2) (v 5) (v 6) (v 7) (s / 16) (s % 16) (-1)))) (a := 1) (c := 0) (c_X0_isEnough hT hD (w := s / 16) (t := s % 16) (lo := -1) (by omega) (by omega) (by omega)) yw_X0_isEnough lk_X0_101 rfl (congrArg Prod.fst (tt_1 hT)) hc_0 rfl dX0_hasRoomFor_18 rfl (Nat.le_of_ble_eq_true rfl) (by decide) ⟨Nat.le_refl _, Nat.le_refl _⟩ ?_
    refine T_eq (pc := 21) C dX0_hasRoomFor_21 dX0_hasRoomFor_24 dX0_hasRoomFor_25 dX0_hasRoomFor_28 ?_
    exact M_zret (pc := 29) C rfl (Bi_01 _) dX0_hasRoomFor_29 (by unfold hrB; first | (rw [decide_eq_false (p := lnN (v 5) ≠ -1) (by omega), Bool.false_and]; rfl) | (rw [decide_eq_true (p := lnN (v 5) ≠ -1) (by omega), Bool.true_and, b_17]; rfl) | (rw [decide_eq_true (p := lnN (v 5) ≠ -1) (by omega), Bool.true_and])) rfl
theorem c_X0_growthOf {N : Nat} {T : Ty} {f : Nat} {n : Int} {v : Ct} (hT : TT T) (hD : DI (v 5) (v 6) (v 7) (v 8)) (hf : f < 10) (hz : v 5 f ≠ -1) (hn : 1 ≤ n ∧ n ≤ 200) : Runs mX0_growthOf 3 0 0 [vR 1, vI ((f : Nat) : Int), vI n] N T v (some (vI (goN (v 2) (v 5) (v 6) (v 7) (v 8) f n))) N T v := by
  have hf1 := hD f hf
  refine Runs.of (by decide) (Nat.le_of_ble_eq_true rfl) fun κ C => ?_
  refine M_aload_n (pc := 0) C dX0_growthOf_0 rfl (by decide) ?_
  refine M_iload_n (pc := 1) C dX0_growthOf_1 rfl ?_
  refine A_cV (pc := 2) C (x := vI (Bi (decide (v 5 f ≠ -1)))) (a := 1) (c := 0) (c_X0_exists_n hT (f := f) (by omega)) yw_X0_exists lk_X0_46 rfl (congrArg Prod.fst (tt_1 hT)) hc_0 rfl dX0_growthOf_2 rfl (Nat.le_of_ble_eq_true rfl) (by decide) ⟨Nat.le_refl _, Nat.le_refl _⟩ ?_
  refine M_rd (pc := 5) C 5 f (fun (r_2_0 : i32 (v 5 f)) => ?_)
  refine M_if_eq (pc := 5) C (tgt := 32) (Bi_i32 _) dX0_growthOf_5 (by decide) (fun h_5 => ?_) (fun h_5 => ?_)
  · have b_5 := Bid_eq0 h_5
    exact absurd hz b_5
  · have b_5 := Bid_ne0 h_5
    refine M_aload_n (pc := 8) C dX0_growthOf_8 rfl (by decide) ?_
    refine A_getR (pc := 9) C fl_X0_30 rfl (a := 1) (j := 8) rfl (tt_1 hT) (by decide) dX0_growthOf_9 ?_
    refine M_iload_n (pc := 12) C dX0_growthOf_12 rfl ?_
    refine A_iald (pc := 13) C (a := 8) (q := f) rfl (tt_8 hT) (by decide) rfl (by omega) dX0_growthOf_13 (fun (r_13 : i32 (v 8 f)) => ?_)
    refine M_iconst (pc := 14) C dX0_growthOf_14 ?_
    refine M_icmp_eq (pc := 15) C (tgt := 32) (by omega) (by omega) dX0_growthOf_15 (by decide) (fun h_15 => ?_) (fun h_15 => ?_)
    · refine M_iconst (pc := 32) C dX0_growthOf_32 ?_
      exact M_iret (pc := 33) C rfl dX0_growthOf_33 (by unfold goN; rw [if_pos (by omega)]) rfl
    · refine M_aload_n (pc := 18) C dX0_growthOf_18 rfl (by decide) ?_
      refine A_getR (pc := 19) C fl_X0_21 rfl (a := 1) (j := 5) rfl (tt_1 hT) (by decide) dX0_growthOf_19 ?_
      refine M_iload_n (pc := 22) C dX0_growthOf_22 rfl ?_
      refine A_iald (pc := 23) C (a := 5) (q := f) rfl (tt_5 hT) (by decide) rfl (by omega) dX0_growthOf_23 (fun (r_23 : i32 (v 5 f)) => ?_)
      refine M_iload_n (pc := 24) C dX0_growthOf_24 rfl ?_
      refine M_iadd (pc := 25) C dX0_growthOf_25 ?_
      refine M_sipush (pc := 26) C (by decide) dX0_growthOf_26 ?_
      refine M_icmp_le (pc := 29) C (tgt := 34) (by omega) (by omega) dX0_growthOf_29 (by decide) (fun h_29 => ?_) (fun h_29 => ?_)
      · refine M_aload_n (pc := 34) C dX0_growthOf_34 rfl (by decide) ?_
        refine A_getR (pc := 35) C fl_X0_21 rfl (a := 1) (j := 5) rfl (tt_1 hT) (by decide) dX0_growthOf_35 ?_
        refine M_iload_n (pc := 38) C dX0_growthOf_38 rfl ?_
        refine A_iald (pc := 39) C (a := 5) (q := f) rfl (tt_5 hT) (by decide) rfl (by omega) dX0_growthOf_39 (fun (r_39 : i32 (v 5 f)) => ?_)
        refine M_iload_n (pc := 40) C dX0_growthOf_40 rfl ?_
        refine M_iadd (pc := 41) C dX0_growthOf_41 ?_
        refine M_istore_n (pc := 42) C dX0_growthOf_42 (by decide) ?_
        refine M_iload_n (pc := 43) C dX0_growthOf_43 rfl ?_
        refine M_bipush (pc := 44) C (by decide) dX0_growthOf_44 ?_
        refine M_idiv (pc := 46) C (by omega) (by decide) dX0_growthOf_46 ?_
        refine M_aload_n (pc := 47) C dX0_growthOf_47 rfl (by decide) ?_
        refine A_getR (pc := 48) C fl_X0_21 rfl (a := 1) (j := 5) rfl (tt_1 hT) (by decide) dX0_growthOf_48 ?_
        refine M_iload_n (pc := 51) C dX0_growthOf_51 rfl ?_
        refine A_iald (pc := 52) C (a := 5) (q := f) rfl (tt_5 hT) (by decide) rfl (by omega) dX0_growthOf_52 (fun (r_52 : i32 (v 5 f)) => ?_)
        refine M_bipush (pc := 53) C (by decide) dX0_growthOf_53 ?_
        refine M_idiv (pc := 55) C (by omega) (by decide) dX0_growthOf_55 ?_
        refine M_isub (pc := 56) C dX0_growthOf_56 ?_
        refine M_istore (pc := 57) C dX0_growthOf_57 (by decide) ?_
        refine M_iload (pc := 59) C dX0_growthOf_59 rfl ?_
        refine M_if_ne (pc := 61) C (tgt := 75) (by omega) dX0_growthOf_61 (by decide) (fun h_61 => ?_) (fun h_61 => ?_)
        · refine M_aload_n (pc := 75) C dX0_growthOf_75 rfl (by decide) ?_
          refine M_iload (pc := 76) C dX0_growthOf_76 rfl ?_
          refine M_iload_n (pc := 78) C dX0_growthOf_78 rfl ?_
          refine M_bipush (pc := 79) C (by decide) dX0_growthOf_79 ?_
          refine M_irem (pc := 81) C (by omega) (by decide) dX0_growthOf_81 ?_
          refine M_iload_n (pc := 82) C dX0_growthOf_82 rfl ?_
          refine A_cV (pc := 83) C (x := vI (Bi (ieB (v 2) (v 5) (v 6) (v 7) ((((v 5 f) + n) / 16) - ((v 5 f) / 16)) (((v 5 f) + n) % 16) ((f : Nat) : Int)))) (a := 1) (c := 0) (c_X0_isEnough hT hD (w := (((v 5 f) + n) / 16) - ((v 5 f) / 16)) (t := ((v 5 f) + n) % 16) (lo := ((f : Nat) : Int)) (by omega) (by omega) (by omega)) yw_X0_isEnough lk_X0_101 rfl (congrArg Prod.fst (tt_1 hT)) hc_0 rfl dX0_growthOf_83 rfl (Nat.le_of_ble_eq_true rfl) (by decide) ⟨Nat.le_refl _, Nat.le_refl _⟩ ?_
          refine M_if_eq (pc := 86) C (tgt := 93) (Bi_i32 _) dX0_growthOf_86 (by decide) (fun h_86 => ?_) (fun h_86 => ?_)
          · have b_86 := Bi_eq0 h_86
            refine M_iconst (pc := 93) C dX0_growthOf_93 ?_
            exact M_iret (pc := 94) C rfl dX0_growthOf_94 (by unfold goN; rw [if_neg (by omega), if_neg (by omega)]; first | (rw [if_pos b_86]; done) | (rw [if_neg (by rw [b_86]; decide)]; done)) rfl
          · have b_86 := Bi_ne0 h_86
            refine M_iconst (pc := 89) C dX0_growthOf_89 ?_
            refine M_goto (pc := 90) C (tgt := 94) dX0_growthOf_90 (by decide) ?_
            exact M_iret (pc := 94) C rfl dX0_growthOf_94 (by unfold goN; rw [if_neg (by omega), if_neg (by omega)]; first | (rw [if_pos b_86]; done) | (rw [if_neg (by rw [b_86]; decide)]; done)) rfl
        · refine M_aload_n (pc := 64) C dX0_growthOf_64 rfl (by decide) ?_
          refine M_iload_n (pc := 65) C dX0_growthOf_65 rfl ?_
          refine A_cV (pc := 66) C (x := vI ((cbN (v 5) (v 6) (v 7) f : Nat) : Int)) (a := 1) (c := 0) (c_X0_cellsBehindTail hT hD (f := f) (by omega)) yw_X0_cellsBehindTail lk_X0_105 rfl (congrArg Prod.fst (tt_1 hT)) hc_0 rfl dX0_growthOf_66 rfl (Nat.le_of_ble_eq_true rfl) (by decide) ⟨Nat.le_refl _, Nat.le_refl _⟩ ?_
          have hcb_66 := cbN_le (v 5) (v 6) (v 7) f
          refine M_iload_n (pc := 69) C dX0_growthOf_69 rfl ?_
          refine M_icmp_lt (pc := 70) C (tgt := 75) (by omega) (by omega) dX0_growthOf_70 (by decide) (fun h_70 => ?_) (fun h_70 => ?_)
          · refine M_aload_n (pc := 75) C dX0_growthOf_75 rfl (by decide) ?_
            refine M_iload (pc := 76) C dX0_growthOf_76 rfl ?_
            refine M_iload_n (pc := 78) C dX0_growthOf_78 rfl ?_
            refine M_bipush (pc := 79) C (by decide) dX0_growthOf_79 ?_
            refine M_irem (pc := 81) C (by omega) (by decide) dX0_growthOf_81 ?_
            refine M_iload_n (pc := 82) C dX0_growthOf_82 rfl ?_
            refine A_cV (pc := 83) C (x := vI (Bi (ieB (v 2) (v 5) (v 6) (v 7) ((((v 5 f) + n) / 16) - ((v 5 f) / 16)) (((v 5 f) + n) % 16) ((f : Nat) : Int)))) (a := 1) (c := 0) (c_X0_isEnough hT hD (w := (((v 5 f) + n) / 16) - ((v 5 f) / 16)) (t := ((v 5 f) + n) % 16) (lo := ((f : Nat) : Int)) (by omega) (by omega) (by omega)) yw_X0_isEnough lk_X0_101 rfl (congrArg Prod.fst (tt_1 hT)) hc_0 rfl dX0_growthOf_83 rfl (Nat.le_of_ble_eq_true rfl) (by decide) ⟨Nat.le_refl _, Nat.le_refl _⟩ ?_
            refine M_if_eq (pc := 86) C (tgt := 93) (Bi_i32 _) dX0_growthOf_86 (by decide) (fun h_86 => ?_) (fun h_86 => ?_)
            · have b_86 := Bi_eq0 h_86
              refine M_iconst (pc := 93) C dX0_growthOf_93 ?_
              exact M_iret (pc := 94) C rfl dX0_growthOf_94 (by unfold goN; rw [if_neg (by omega), if_neg (by omega)]; first | (rw [if_pos b_86]; done) | (rw [if_neg (by rw [b_86]; decide)]; done)) rfl
            · have b_86 := Bi_ne0 h_86
              refine M_iconst (pc := 89) C dX0_growthOf_89 ?_
              refine M_goto (pc := 90) C (tgt := 94) dX0_growthOf_90 (by decide) ?_
              exact M_iret (pc := 94) C rfl dX0_growthOf_94 (by unfold goN; rw [if_neg (by omega), if_neg (by omega)]; first | (rw [if_pos b_86]; done) | (rw [if_neg (by rw [b_86]; decide)]; done)) rfl
          · refine M_iconst (pc := 73) C dX0_growthOf_73 ?_
            exact M_iret (pc := 74) C rfl dX0_growthOf_74 (by unfold goN; rw [if_neg (by omega), if_pos (by omega)]) rfl
      · refine M_iconst (pc := 32) C dX0_growthOf_32 ?_
        exact M_iret (pc := 33) C rfl dX0_growthOf_33 (by unfold goN; rw [if_pos (by omega)]) rfl
