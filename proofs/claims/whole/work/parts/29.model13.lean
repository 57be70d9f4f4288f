theorem c_Jxe99ae_isNaN_b9ae7 {N : Nat} {T : Ty} {x : UInt64} {v : Ct} (hT : TT T) (hx : okD x = true) : Runs mJxe99ae_isNaN_b9ae7 0 0 0 [vD x] N T v (some (vI 0)) N T v := by
  refine Runs.of (by decide) (Nat.le_of_ble_eq_true rfl) fun κ C => ?_
  refine M_dload_n (pc := 0) C dJxe99ae_isNaN_b9ae7_0 rfl ?_
  refine M_dload_n (pc := 1) C dJxe99ae_isNaN_b9ae7_1 rfl ?_
  refine M_dcmp (pc := 2) C (z := 0) (okD_2 hx) dJxe99ae_isNaN_b9ae7_2 ?_
  refine T_if_eq (pc := 3) C (by omega) dJxe99ae_isNaN_b9ae7_3 dJxe99ae_isNaN_b9ae7_6 dJxe99ae_isNaN_b9ae7_7 dJxe99ae_isNaN_b9ae7_10 ?_
  exact M_zret (pc := 11) C rfl (Bi_01 _) dJxe99ae_isNaN_b9ae7_11 rfl rfl
theorem c_Jxe99ae_doubleToLongBits_ccdee {N : Nat} {T : Ty} {x : UInt64} {v : Ct} (hT : TT T) (hx : okD x = true) : Runs mJxe99ae_doubleToLongBits_ccdee 1 0 0 [vD x] N T v (some (vJ x.toInt64.toInt)) N T v := by
  refine Runs.of (by decide) (Nat.le_of_ble_eq_true rfl) fun κ C => ?_
  refine M_dload_n (pc := 0) C dJxe99ae_doubleToLongBits_ccdee_0 rfl ?_
  refine A_cS (pc := 1) C (x := vI 0) (c_Jxe99ae_isNaN_b9ae7 hT (x := x) hx) yw_Jxe99ae_isNaN_b9ae7 lk_Jxe99ae_122 rfl dJxe99ae_doubleToLongBits_ccdee_1 rfl (Nat.le_of_ble_eq_true rfl) (by decide) ⟨Nat.le_refl _, Nat.le_refl _⟩ ?_
  refine M_if_ne (pc := 4) C (tgt := 12) (by decide) dJxe99ae_doubleToLongBits_ccdee_4 (by decide) (fun h => absurd h (by decide)) (fun _ => ?_)
  refine M_dload_n (pc := 7) C dJxe99ae_doubleToLongBits_ccdee_7 rfl ?_
  refine M_raw (pc := 8) C raw_l dJxe99ae_doubleToLongBits_ccdee_8 (by decide) (Nat.le_of_ble_eq_true rfl) raw_n raw_s raw_i ?_
  exact M_lret (pc := 11) C rfl dJxe99ae_doubleToLongBits_ccdee_11 rfl rfl
theorem c_X8_fewestBlocks_g {N : Nat} {T : Ty} {B F O A R : Nat → Int} {v : Ct} (hT : TT T) (hI : RI R) : RunsP mX8_fewestBlocks 4 0 0 [vR 84] N T (sa (sa (sa (sa (sa v 92 B) 94 F) 93 O) 88 A) 85 R) N T (fun r1 v1 => ∃ B2, r1 = some (vI (fbG R)) ∧ v1 = sa (sa (sa (sa (sa v 92 B2) 94 F) 93 (wrO O (srL R 150))) 88 A) 85 R) := by
  have h := c_X8_fewestBlocks (N := N) (v := v) (B := B) (F := F) (O := O) (A := A) hT hI
  rw [fbG_eq] at h
  exact h
theorem c_X8_fewest_b {N : Nat} {T : Ty} {G : Nat → Int} {x : Int} {v : Ct} (hT : TT T) (hx : i32 x) (hb : inB x 0 1 = false) : Runs mX8_fewest 1 0 0 [vR 84, vI x] N T (sa v 84 G) (some (vI 0)) N T (sa v 84 (rs G 13 1)) := by
  refine Runs.of (by decide) (Nat.le_of_ble_eq_true rfl) fun κ C => ?_
  refine M_aload_n (pc := 0) C dX8_fewest_0 rfl (by decide) ?_
  refine M_iconst (pc := 1) C dX8_fewest_1 ?_
  refine A_putI (pc := 2) C fl_X8_41 rfl (by decide) (a := 84) rfl (tt_84 hT) (by omega) dX8_fewest_2 ?_
  refine M.to (pc := 5) (v2 := sa v 84 (rs G 13 0)) ?_ rfl rfl (by rw [sa_up0])
  refine M_iload_n (pc := 5) C dX8_fewest_5 rfl ?_
  refine M_iconst (pc := 6) C dX8_fewest_6 ?_
  refine M_iconst (pc := 7) C dX8_fewest_7 ?_
  refine A_cS (pc := 8) C (x := vI (Bi (inB x 0 1))) (c_X8_in hT (x := x) (a := 0) (b := 1) (by omega) (by omega) (by omega)) yw_X8_in lk_X8_45 rfl dX8_fewest_8 rfl (Nat.le_of_ble_eq_true rfl) (by decide) ⟨Nat.le_refl _, Nat.le_refl _⟩ ?_
  refine M_if_eq (pc := 11) C (tgt := 21) (Bi_i32 _) dX8_fewest_11 (by decide) (fun _ => ?_) (fun h => absurd hb (by rw [Bi_ne0 h]; decide))
  refine M_aload_n (pc := 21) C dX8_fewest_21 rfl (by decide) ?_
  refine M_iconst (pc := 22) C dX8_fewest_22 ?_
  refine A_cV (pc := 23) C (x := vI 0) (a := 84) (c := 8) (c_X8_fails hT (x := 1) (by decide)) yw_X8_fails lk_X8_81 rfl (congrArg Prod.fst (tt_84 hT)) hc_8 rfl dX8_fewest_23 rfl (Nat.le_of_ble_eq_true rfl) (by decide) ⟨Nat.le_refl _, Nat.le_refl _⟩ ?_
  refine M.to (v2 := sa v 84 (rs (rs G 13 0) 13 1)) ?_ rfl rfl (by rw [sa_up0])
  exact M_iret (pc := 26) C rfl dX8_fewest_26 rfl (by rw [rs_rs])
theorem c_X8_fewest {N : Nat} {T : Ty} {G B F O A R : Nat → Int} {w : Nat} {v : Ct} (hT : TT T) (hI : RI R) (hw : w < 2) : RunsP mX8_fewest 5 0 0 [vR 84, vI ((w : Nat) : Int)] N T (sa (sa (sa (sa (sa (sa v 84 G) 92 B) 94 F) 93 O) 88 A) 85 R) N T (fun r1 v1 => ∃ B2, r1 = some (vI (fbG R)) ∧ v1 = sa (sa (sa (sa (sa (sa v 84 (rs G 13 0)) 92 B2) 94 F) 93 (wrO O (srL R 150))) 88 A) 85 R) := by
  have hb : inB ((w : Nat) : Int) 0 1 = true := inB_t (by omega) (by omega)
  refine RunsP.of (by decide) (Nat.le_of_ble_eq_true rfl) fun κ C => ?_
  refine M_aload_n (pc := 0) C dX8_fewest_0 rfl (by decide) ?_
  refine M_iconst (pc := 1) C dX8_fewest_1 ?_
  refine A_putI (pc := 2) C fl_X8_41 rfl (by decide) (a := 84) rfl (tt_84 hT) (by omega) dX8_fewest_2 ?_
  refine M.to (pc := 5) (v2 := sa (sa (sa (sa (sa (sa v 84 (rs G 13 0)) 92 B) 94 F) 93 O) 88 A) 85 R) ?_ rfl rfl (by rw [sa_up1 (by decide), sa_up1 (by decide), sa_up1 (by decide), sa_up1 (by decide), sa_up1 (by decide), sa_up0])
  refine M_iload_n (pc := 5) C dX8_fewest_5 rfl ?_
  refine M_iconst (pc := 6) C dX8_fewest_6 ?_
  refine M_iconst (pc := 7) C dX8_fewest_7 ?_
  refine A_cS (pc := 8) C (x := vI (Bi (inB ((w : Nat) : Int) 0 1))) (c_X8_in hT (x := ((w : Nat) : Int)) (a := 0) (b := 1) (by omega) (by omega) (by omega)) yw_X8_in lk_X8_45 rfl dX8_fewest_8 rfl (Nat.le_of_ble_eq_true rfl) (by decide) ⟨Nat.le_refl _, Nat.le_refl _⟩ ?_
  refine M_if_eq (pc := 11) C (tgt := 21) (Bi_i32 _) dX8_fewest_11 (by decide) (fun h => absurd hb (by rw [Bi_eq0 h]; decide)) (fun _ => ?_)
  refine M_aload_n (pc := 14) C dX8_fewest_14 rfl (by decide) ?_
  refine A_pV (pc := 15) C (a := 84) (c := 8) (c_X8_fewestBlocks_g hT (v := sa v 84 (rs G 13 0)) (B := B) (F := F) (O := O) (A := A) (R := R) hI) yw_X8_fewestBlocks lk_X8_234 rfl (congrArg Prod.fst (tt_84 hT)) hc_8 rfl dX8_fewest_15 rfl (Nat.le_of_ble_eq_true rfl) (by decide) ⟨Nat.le_refl _, Nat.le_refl _⟩ (fun r_15 v_15 p_15 => ?_)
  obtain ⟨B_15, rfl, rfl⟩ := p_15
  refine M.to (pc := 18) (st2 := [vI (fbG R)]) (v2 := sa (sa (sa (sa (sa (sa v 84 (rs G 13 0)) 92 B_15) 94 F) 93 (wrO O (srL R 150))) 88 A) 85 R) ?_ rfl rfl rfl
  refine M_goto (pc := 18) C (tgt := 26) dX8_fewest_18 (by decide) ?_
  exact M_iretP (pc := 26) C rfl dX8_fewest_26 ⟨B_15, rfl, rfl⟩
theorem c_X8_thrown {N : Nat} {T : Ty} {v : Ct} (hT : TT T)  : Runs mX8_thrown 0 0 0 [vR 84] N T v (some (vI (v 84 13))) N T v := by
  refine Runs.of (by decide) (Nat.le_of_ble_eq_true rfl) fun κ C => ?_
  refine M_aload_n (pc := 0) C dX8_thrown_0 rfl (by decide) ?_
  refine A_getI (pc := 1) C fl_X8_41 rfl (a := 84) rfl (tt_84 hT) dX8_thrown_1 (fun (r_1 : i32 (v 84 13)) => ?_)
  exact M_iret (pc := 4) C rfl dX8_thrown_4 rfl rfl
theorem c_X8_used {N : Nat} {T : Ty} {v : Ct} (hT : TT T) (hI : RI (v 85)) (hu : okD (usF (v 85)) = true) : Runs mX8_used 5 0 0 [vR 84] N T v (some (vD (usF (v 85)))) N T v := by
  have hc1 := cntK_bd (v 85) 1
  have hc2 := cntK_bd (v 85) 2
  refine Runs.of (by decide) (Nat.le_of_ble_eq_true rfl) fun κ C => ?_
  refine M_aload_n (pc := 0) C dX8_used_0 rfl (by decide) ?_
  refine M_iconst (pc := 1) C dX8_used_1 ?_
  refine A_cV (pc := 2) C (x := vI (cntK (v 85) 1)) (a := 84) (c := 8) (c_X8_blocksThat hT (x := 1) (by omega)) yw_X8_blocksThat lk_X8_146 rfl (congrArg Prod.fst (tt_84 hT)) hc_8 rfl dX8_used_2 rfl (Nat.le_of_ble_eq_true rfl) (by decide) ⟨Nat.le_refl _, Nat.le_refl _⟩ ?_
  refine M_aload_n (pc := 5) C dX8_used_5 rfl (by decide) ?_
  refine M_iconst (pc := 6) C dX8_used_6 ?_
  refine A_cV (pc := 7) C (x := vI (cntK (v 85) 2)) (a := 84) (c := 8) (c_X8_blocksThat hT (x := 2) (by omega)) yw_X8_blocksThat lk_X8_146 rfl (congrArg Prod.fst (tt_84 hT)) hc_8 rfl dX8_used_7 rfl (Nat.le_of_ble_eq_true rfl) (by decide) ⟨Nat.le_refl _, Nat.le_refl _⟩ ?_
  refine M_iadd (pc := 10) C dX8_used_10 ?_
  refine M_istore_n (pc := 11) C dX8_used_11 (by decide) ?_
  refine M_iload_n (pc := 12) C dX8_used_12 rfl ?_
  refine M_if_ne (pc := 13) C (tgt := 20) (by omega) dX8_used_13 (by decide) (fun h_13 => ?_) (fun h_13 => ?_)
  · have he : usF (v 85) = FP.ddiv (FP.i2d (Int32.ofInt (gcF (v 85)))) (FP.i2d (Int32.ofInt (16 * (cntK (v 85) 1 + cntK (v 85) 2)))) := if_neg h_13
    refine M_aload_n (pc := 20) C dX8_used_20 rfl (by decide) ?_
    refine A_cV (pc := 21) C (x := vI (gcF (v 85))) (a := 84) (c := 8) (c_X8_goodCells hT hI) yw_X8_goodCells lk_X8_213 rfl (congrArg Prod.fst (tt_84 hT)) hc_8 rfl dX8_used_21 rfl (Nat.le_of_ble_eq_true rfl) (by decide) ⟨Nat.le_refl _, Nat.le_refl _⟩ ?_
    refine M_i2d (pc := 24) C dX8_used_24 ?_
    refine M_bipush (pc := 25) C (by decide) dX8_used_25 ?_
    refine M_iload_n (pc := 27) C dX8_used_27 rfl ?_
    refine M_imul (pc := 28) C dX8_used_28 ?_
    refine M_i2d (pc := 29) C dX8_used_29 ?_
    refine M_ddiv (pc := 30) C (z := FP.ddiv (FP.i2d (Int32.ofInt (gcF (v 85)))) (FP.i2d (Int32.ofInt (16 * ((cntK (v 85) 1) + (cntK (v 85) 2)))))) rfl (by rw [← he]; exact okD_1 hu) dX8_used_30 ?_
    exact M_dret (pc := 31) C rfl dX8_used_31 (by rw [he]) rfl
  · have he : usF (v 85) = FP.dconst1 := if_pos h_13
    refine M_dconst1 (pc := 16) C dX8_used_16 ?_
    refine M_goto (pc := 17) C (tgt := 31) dX8_used_17 (by decide) ?_
    exact M_dret (pc := 31) C rfl dX8_used_31 (by rw [he]) rfl
theorem c_X8_usedShare {N : Nat} {T : Ty} {G : Nat → Int}  {v : Ct} (hT : TT T) (hI : RI (v 85)) (hu : okD (usF (v 85)) = true) : Runs mX8_usedShare 6 0 0 [vR 84] N T (sa v 84 G) (some (vD (usF (v 85)))) N T (sa v 84 (rs G 13 0)) := by
  refine Runs.of (by decide) (Nat.le_of_ble_eq_true rfl) fun κ C => ?_
  refine M_aload_n (pc := 0) C dX8_usedShare_0 rfl (by decide) ?_
  refine M_iconst (pc := 1) C dX8_usedShare_1 ?_
  refine A_putI (pc := 2) C fl_X8_41 rfl (by decide) (a := 84) rfl (tt_84 hT) (by omega) dX8_usedShare_2 ?_
  refine M.to (pc := 5) (v2 := sa v 84 (rs G 13 0)) ?_ rfl rfl (by rw [sa_up0])
  refine M_aload_n (pc := 5) C dX8_usedShare_5 rfl (by decide) ?_
  refine A_cV (pc := 6) C (x := vD (usF (v 85))) (a := 84) (c := 8) (c_X8_used hT hI hu) yw_X8_used lk_X8_243 rfl (congrArg Prod.fst (tt_84 hT)) hc_8 rfl dX8_usedShare_6 rfl (Nat.le_of_ble_eq_true rfl) (by decide) ⟨Nat.le_refl _, Nat.le_refl _⟩ ?_
  exact M_dret (pc := 9) C rfl dX8_usedShare_9 rfl rfl
theorem c_X8_ofFiles {N : Nat} {T : Ty} {A R : Nat → Int} {h : Int} {v : Ct} (hT : TT T) (hI : RI R) : Runs mX8_ofFiles 10 0 0 [vR 84, vJ h] N T (sa (sa v 88 A) 85 R) (some (vJ (hfN R h 10))) N T (sa (sa v 88 (hfA R A 10)) 85 R) := by
  refine Runs.of (by decide) (Nat.le_of_ble_eq_true rfl) fun κ C => ?_
  refine M_lload_n (pc := 0) C dX8_ofFiles_0 rfl ?_
  refine M_lstore_n (pc := 1) C dX8_ofFiles_1 (by decide) ?_
  refine M_iconst (pc := 2) C dX8_ofFiles_2 ?_
  refine M_istore (pc := 3) C dX8_ofFiles_3 (by decide) ?_
  refine loop_le (P := fun i => M κ N T 5 [some (vR 84), some (vJ h), none, some (vJ (hfN R h i)), none, some (vI ((i : Nat) : Int)), none] [] (sa (sa v 88 (hfA R A i)) 85 R) 0 0 (QR κ (some (vJ (hfN R h 10))) N T (sa (sa v 88 (hfA R A 10)) 85 R) 0 0)) 10 (fun i hi ih => ?_)
  refine M_iload (pc := 5) C dX8_ofFiles_5 rfl ?_
  refine M_bipush (pc := 7) C (by decide) dX8_ofFiles_7 ?_
  refine M_icmp_ge (pc := 9) C (tgt := 148) (by omega) (by omega) dX8_ofFiles_9 (by decide) (fun h_9 => ?_) (fun h_9 => ?_)
  · have hi10 : i = 10 := by omega
    subst hi10
    refine M_lload_n (pc := 148) C dX8_ofFiles_148 rfl ?_
    exact M_lret (pc := 149) C rfl dX8_ofFiles_149 rfl rfl
  · refine M_aload_n (pc := 12) C dX8_ofFiles_12 rfl (by decide) ?_
    refine M_iload (pc := 13) C dX8_ofFiles_13 rfl ?_
    refine A_cV (pc := 15) C (x := vI (Bi (decide (ro R i 0 = 1)))) (a := 84) (c := 8) (c_X8_isFile_n hT (f := i) (by omega)) yw_X8_isFile lk_X8_53 rfl (congrArg Prod.fst (tt_84 hT)) hc_8 rfl dX8_ofFiles_15 rfl (Nat.le_of_ble_eq_true rfl) (by decide) ⟨Nat.le_refl _, Nat.le_refl _⟩ ?_
    refine M_if_eq (pc := 18) C (tgt := 142) (Bi_i32 _) dX8_ofFiles_18 (by decide) (fun h_18 => ?_) (fun h_18 => ?_)
    · have b_18 := Bid_eq0 h_18
      refine M_iinc (pc := 142) C dX8_ofFiles_142 rfl (by decide) ?_
      refine M_goto (pc := 145) C (tgt := 5) dX8_ofFiles_145 (by decide) ?_
      exact M.to (ih (by omega)) (by first | (rw [show hfN R h (i + 1) = hf2 R i (hfN R h i) from if_pos b_18]; unfold hf2; rw [he]; rfl) | (rw [show hfN R h (i + 1) = hfN R h i from if_neg b_18]; rfl)) rfl (by first | (rw [show hfA R A (i + 1) = cpA (cpA (hfA R A i) R 0 0 207) R 0 0 207 from if_pos b_18]) | (rw [show hfA R A (i + 1) = hfA R A i from if_neg b_18]))
    · have b_18 := Bid_ne0 h_18
      have hrow := hI i (by omega)
      refine M_ldc2 (pc := 21) C lc_X8_247 (z := 31) rfl dX8_ofFiles_21 ?_
      refine M_lload_n (pc := 24) C dX8_ofFiles_24 rfl ?_
      refine M_lmul (pc := 25) C dX8_ofFiles_25 ?_
      refine M_iload (pc := 26) C dX8_ofFiles_26 rfl ?_
      refine M_i2l (pc := 28) C (by omega) dX8_ofFiles_28 ?_
      refine M_ladd (pc := 29) C dX8_ofFiles_29 ?_
      refine M_lstore_n (pc := 30) C dX8_ofFiles_30 (by decide) ?_
      refine M_iconst (pc := 31) C dX8_ofFiles_31 ?_
      refine M_istore (pc := 32) C dX8_ofFiles_32 (by decide) ?_
      refine loop_le (P := fun k => M κ N T 34 [some (vR 84), some (vJ h), none, some (vJ (hsN (31 * hfN R h i + ((i : Nat) : Int)) (prF R i) k)), none, some (vI ((i : Nat) : Int)), some (vI ((k : Nat) : Int))] [] (sa (sa v 88 (hfA R A i)) 85 R) 0 0 (QR κ (some (vJ (hfN R h 10))) N T (sa (sa v 88 (hfA R A 10)) 85 R) 0 0)) 7 (fun k hk ihk => ?_)
      refine M_iload (pc := 34) C dX8_ofFiles_34 rfl ?_
      refine M_bipush (pc := 36) C (by decide) dX8_ofFiles_36 ?_
      refine M_icmp_ge (pc := 38) C (tgt := 63) (by omega) (by omega) dX8_ofFiles_38 (by decide) (fun h_38 => ?_) (fun h_38 => ?_)
      · have hk7 : k = 7 := by omega
        subst hk7
        refine M_aload_n (pc := 63) C dX8_ofFiles_63 rfl (by decide) ?_
        refine M_iload (pc := 64) C dX8_ofFiles_64 rfl ?_
        refine M_iconst (pc := 66) C dX8_ofFiles_66 ?_
        refine A_cV (pc := 67) C (x := vI (ro R i 1)) (a := 84) (c := 8) (c_X8_of (f := i) (w := 1) hT (by omega)) yw_X8_of lk_X8_49 rfl (congrArg Prod.fst (tt_84 hT)) hc_8 rfl dX8_ofFiles_67 rfl (Nat.le_of_ble_eq_true rfl) (by decide) ⟨Nat.le_refl _, Nat.le_refl _⟩ ?_
        refine M_rd (pc := 70) C 85 (27 + 18 * i + 1) (fun (r_67_0 : i32 (ro R i 1)) => ?_)
        refine M_if_le (pc := 70) C (tgt := 111) (by omega) dX8_ofFiles_70 (by decide) (fun h_70 => ?_) (fun h_70 => ?_)
        · have he : hf1 R i (31 * hfN R h i + ((i : Nat) : Int)) = hsN (31 * hfN R h i + ((i : Nat) : Int)) (prF R i) 7 := if_neg (by omega)
          refine M_ldc2 (pc := 111) C lc_X8_247 (z := 31) rfl dX8_ofFiles_111 ?_
          refine M_lload_n (pc := 114) C dX8_ofFiles_114 rfl ?_
          refine M_lmul (pc := 115) C dX8_ofFiles_115 ?_
          refine M_aload_n (pc := 116) C dX8_ofFiles_116 rfl (by decide) ?_
          refine M_iload (pc := 117) C dX8_ofFiles_117 rfl ?_
          refine M_iconst (pc := 119) C dX8_ofFiles_119 ?_
          refine A_cV (pc := 120) C (x := vI (opV (gwO R i 1))) (a := 84) (c := 8) (c_X8_afterGrowing hT (v := v) (A := hfA R A i) (R := R) (f := i) (n := 1) hI (by omega) (by omega)) yw_X8_afterGrowing lk_X8_225 rfl (congrArg Prod.fst (tt_84 hT)) hc_8 rfl dX8_ofFiles_120 rfl (Nat.le_of_ble_eq_true rfl) (by decide) ⟨Nat.le_refl _, Nat.le_refl _⟩ ?_
          refine M_wr (pc := 123) ?_
          refine M_i2l (pc := 123) C (wr_i32 _) dX8_ofFiles_123 ?_
          refine M_ladd (pc := 124) C dX8_ofFiles_124 ?_
          refine M_lstore_n (pc := 125) C dX8_ofFiles_125 (by decide) ?_
          refine M_ldc2 (pc := 126) C lc_X8_247 (z := 31) rfl dX8_ofFiles_126 ?_
          refine M_lload_n (pc := 129) C dX8_ofFiles_129 rfl ?_
          refine M_lmul (pc := 130) C dX8_ofFiles_130 ?_
          refine M_aload_n (pc := 131) C dX8_ofFiles_131 rfl (by decide) ?_
          refine M_iload (pc := 132) C dX8_ofFiles_132 rfl ?_
          refine M_bipush (pc := 134) C (by decide) dX8_ofFiles_134 ?_
          refine A_cV (pc := 136) C (x := vI (opV (gwO R i 16))) (a := 84) (c := 8) (c_X8_afterGrowing hT (v := v) (A := cpA (hfA R A i) R 0 0 207) (R := R) (f := i) (n := 16) hI (by omega) (by omega)) yw_X8_afterGrowing lk_X8_225 rfl (congrArg Prod.fst (tt_84 hT)) hc_8 rfl dX8_ofFiles_136 rfl (Nat.le_of_ble_eq_true rfl) (by decide) ⟨Nat.le_refl _, Nat.le_refl _⟩ ?_
          refine M_wr (pc := 139) ?_
          refine M_i2l (pc := 139) C (wr_i32 _) dX8_ofFiles_139 ?_
          refine M_ladd (pc := 140) C dX8_ofFiles_140 ?_
          refine M_lstore_n (pc := 141) C dX8_ofFiles_141 (by decide) ?_
          refine M_iinc (pc := 142) C dX8_ofFiles_142 rfl (by decide) ?_
          refine M_goto (pc := 145) C (tgt := 5) dX8_ofFiles_145 (by decide) ?_
          refine M.drop [true, true, true, true, true, true, false] rfl ?_
          exact M.to (ih (by omega)) (by first | (rw [show hfN R h (i + 1) = hf2 R i (hfN R h i) from if_pos b_18]; unfold hf2; rw [he]; rfl) | (rw [show hfN R h (i + 1) = hfN R h i from if_neg b_18]; rfl)) rfl (by first | (rw [show hfA R A (i + 1) = cpA (cpA (hfA R A i) R 0 0 207) R 0 0 207 from if_pos b_18]) | (rw [show hfA R A (i + 1) = hfA R A i from if_neg b_18]))
        · have he : hf1 R i (31 * hfN R h i + ((i : Nat) : Int)) = 31 * (31 * hsN (31 * hfN R h i + ((i : Nat) : Int)) (prF R i) 7 + wr (plO R i 0)) + wr (plO R i (ro R i 1 - 1).toNat) := if_pos h_70
          refine M_ldc2 (pc := 73) C lc_X8_247 (z := 31) rfl dX8_ofFiles_73 ?_
          refine M_lload_n (pc := 76) C dX8_ofFiles_76 rfl ?_
          refine M_lmul (pc := 77) C dX8_ofFiles_77 ?_
          refine M_aload_n (pc := 78) C dX8_ofFiles_78 rfl (by decide) ?_
          refine M_iload (pc := 79) C dX8_ofFiles_79 rfl ?_
          refine M_iconst (pc := 81) C dX8_ofFiles_81 ?_
          refine A_cV (pc := 82) C (x := vI (plO R i 0)) (a := 84) (c := 8) (c_X8_placeOf hT hI (f := i) (c := 0) (by omega) (show ((0 : Nat) : Int) < ro R i 1 by omega)) yw_X8_placeOf lk_X8_198 rfl (congrArg Prod.fst (tt_84 hT)) hc_8 rfl dX8_ofFiles_82 rfl (Nat.le_of_ble_eq_true rfl) (by decide) ⟨Nat.le_refl _, Nat.le_refl _⟩ ?_
          refine M_wr (pc := 85) ?_
          refine M_i2l (pc := 85) C (wr_i32 _) dX8_ofFiles_85 ?_
          refine M_ladd (pc := 86) C dX8_ofFiles_86 ?_
          refine M_lstore_n (pc := 87) C dX8_ofFiles_87 (by decide) ?_
          refine M_ldc2 (pc := 88) C lc_X8_247 (z := 31) rfl dX8_ofFiles_88 ?_
          refine M_lload_n (pc := 91) C dX8_ofFiles_91 rfl ?_
          refine M_lmul (pc := 92) C dX8_ofFiles_92 ?_
          refine M_aload_n (pc := 93) C dX8_ofFiles_93 rfl (by decide) ?_
          refine M_iload (pc := 94) C dX8_ofFiles_94 rfl ?_
          refine M_aload_n (pc := 96) C dX8_ofFiles_96 rfl (by decide) ?_
          refine M_iload (pc := 97) C dX8_ofFiles_97 rfl ?_
          refine M_iconst (pc := 99) C dX8_ofFiles_99 ?_
          refine A_cV (pc := 100) C (x := vI (ro R i 1)) (a := 84) (c := 8) (c_X8_of (f := i) (w := 1) hT (by omega)) yw_X8_of lk_X8_49 rfl (congrArg Prod.fst (tt_84 hT)) hc_8 rfl dX8_ofFiles_100 rfl (Nat.le_of_ble_eq_true rfl) (by decide) ⟨Nat.le_refl _, Nat.le_refl _⟩ ?_
          refine M_rd (pc := 103) C 85 (27 + 18 * i + 1) (fun (r_100_0 : i32 (ro R i 1)) => ?_)
          refine M_iconst (pc := 103) C dX8_ofFiles_103 ?_
          refine M_isub (pc := 104) C dX8_ofFiles_104 ?_
          refine M.to (st2 := [vI (((ro R i 1 - 1).toNat : Nat) : Int), vI ((i : Nat) : Int), vR 84, vJ (31 * (31 * hsN (31 * hfN R h i + ((i : Nat) : Int)) (prF R i) 7 + wr (plO R i 0)))]) ?_ rfl (by rw [Int.toNat_of_nonneg (by omega)]) rfl
          refine A_cV (pc := 105) C (x := vI (plO R i ((ro R i 1 - 1).toNat))) (a := 84) (c := 8) (c_X8_placeOf hT hI (f := i) (c := (ro R i 1 - 1).toNat) (by omega) (show (((ro R i 1 - 1).toNat : Nat) : Int) < ro R i 1 by omega)) yw_X8_placeOf lk_X8_198 rfl (congrArg Prod.fst (tt_84 hT)) hc_8 rfl dX8_ofFiles_105 rfl (Nat.le_of_ble_eq_true rfl) (by decide) ⟨Nat.le_refl _, Nat.le_refl _⟩ ?_
          refine M_wr (pc := 108) ?_
          refine M_i2l (pc := 108) C (wr_i32 _) dX8_ofFiles_108 ?_
          refine M_ladd (pc := 109) C dX8_ofFiles_109 ?_
          refine M_lstore_n (pc := 110) C dX8_ofFiles_110 (by decide) ?_
          refine M_ldc2 (pc := 111) C lc_X8_247 (z := 31) rfl dX8_ofFiles_111 ?_
          refine M_lload_n (pc := 114) C dX8_ofFiles_114 rfl ?_
          refine M_lmul (pc := 115) C dX8_ofFiles_115 ?_
          refine M_aload_n (pc := 116) C dX8_ofFiles_116 rfl (by decide) ?_
          refine M_iload (pc := 117) C dX8_ofFiles_117 rfl ?_
          refine M_iconst (pc := 119) C dX8_ofFiles_119 ?_
          refine A_cV (pc := 120) C (x := vI (opV (gwO R i 1))) (a := 84) (c := 8) (c_X8_afterGrowing hT (v := v) (A := hfA R A i) (R := R) (f := i) (n := 1) hI (by omega) (by omega)) yw_X8_afterGrowing lk_X8_225 rfl (congrArg Prod.fst (tt_84 hT)) hc_8 rfl dX8_ofFiles_120 rfl (Nat.le_of_ble_eq_true rfl) (by decide) ⟨Nat.le_refl _, Nat.le_refl _⟩ ?_
          refine M_wr (pc := 123) ?_
          refine M_i2l (pc := 123) C (wr_i32 _) dX8_ofFiles_123 ?_
          refine M_ladd (pc := 124) C dX8_ofFiles_124 ?_
          refine M_lstore_n (pc := 125) C dX8_ofFiles_125 (by decide) ?_
          refine M_ldc2 (pc := 126) C lc_X8_247 (z := 31) rfl dX8_ofFiles_126 ?_
          refine M_lload_n (pc := 129) C dX8_ofFiles_129 rfl ?_
          refine M_lmul (pc := 130) C dX8_ofFiles_130 ?_
          refine M_aload_n (pc := 131) C dX8_ofFiles_131 rfl (by decide) ?_
          refine M_iload (pc := 132) C dX8_ofFiles_132 rfl ?_
          refine M_bipush (pc := 134) C (by decide) dX8_ofFiles_134 ?_
          refine A_cV (pc := 136) C (x := vI (opV (gwO R i 16))) (a := 84) (c := 8) (c_X8_afterGrowing hT (v := v) (A := cpA (hfA R A i) R 0 0 207) (R := R) (f := i) (n := 16) hI (by omega) (by omega)) yw_X8_afterGrowing lk_X8_225 rfl (congrArg Prod.fst (tt_84 hT)) hc_8 rfl dX8_ofFiles_136 rfl (Nat.le_of_ble_eq_true rfl) (by decide) ⟨Nat.le_refl _, Nat.le_refl _⟩ ?_
          refine M_wr (pc := 139) ?_
          refine M_i2l (pc := 139) C (wr_i32 _) dX8_ofFiles_139 ?_
          refine M_ladd (pc := 140) C dX8_ofFiles_140 ?_
          refine M_lstore_n (pc := 141) C dX8_ofFiles_141 (by decide) ?_
          refine M_iinc (pc := 142) C dX8_ofFiles_142 rfl (by decide) ?_
          refine M_goto (pc := 145) C (tgt := 5) dX8_ofFiles_145 (by decide) ?_
          refine M.drop [true, true, true, true, true, true, false] rfl ?_
          exact M.to (ih (by omega)) (by first | (rw [show hfN R h (i + 1) = hf2 R i (hfN R h i) from if_pos b_18]; unfold hf2; rw [he]; rfl) | (rw [show hfN R h (i + 1) = hfN R h i from if_neg b_18]; rfl)) rfl (by first | (rw [show hfA R A (i + 1) = cpA (cpA (hfA R A i) R 0 0 207) R 0 0 207 from if_pos b_18]) | (rw [show hfA R A (i + 1) = hfA R A i from if_neg b_18]))
      · refine M_ldc2 (pc := 41) C lc_X8_247 (z := 31) rfl dX8_ofFiles_41 ?_
        refine M_lload_n (pc := 44) C dX8_ofFiles_44 rfl ?_
        refine M_lmul (pc := 45) C dX8_ofFiles_45 ?_
        refine M_aload_n (pc := 46) C dX8_ofFiles_46 rfl (by decide) ?_
        refine M_iload (pc := 47) C dX8_ofFiles_47 rfl ?_
        refine M_iload (pc := 49) C dX8_ofFiles_49 rfl ?_
        refine A_cV (pc := 51) C (x := vI (prF R i k)) (a := 84) (c := 8) (c_X8_property hT hI (f := i) (w := k) (by omega) (by omega)) yw_X8_property lk_X8_195 rfl (congrArg Prod.fst (tt_84 hT)) hc_8 rfl dX8_ofFiles_51 rfl (Nat.le_of_ble_eq_true rfl) (by decide) ⟨Nat.le_refl _, Nat.le_refl _⟩ ?_
        refine M_wr (pc := 54) ?_
        refine M_i2l (pc := 54) C (wr_i32 _) dX8_ofFiles_54 ?_
        refine M_ladd (pc := 55) C dX8_ofFiles_55 ?_
        refine M_lstore_n (pc := 56) C dX8_ofFiles_56 (by decide) ?_
        refine M_iinc (pc := 57) C dX8_ofFiles_57 rfl (by decide) ?_
        refine M_goto (pc := 60) C (tgt := 34) dX8_ofFiles_60 (by decide) ?_
        exact M.to (ihk (by omega)) rfl rfl rfl
theorem c_X8_digest {N : Nat} {T : Ty} {G B F O A R : Nat → Int} {n : Nat} {v : Ct} (hT : TT T) (hI : RI R) (hu : okD (usF R) = true) (hl : G 7 = (n : Int)) (hn : n ≤ 60) : RunsP mX8_digest 11 0 0 [vR 84] N T (sa (sa (sa (sa (sa (sa v 84 G) 92 B) 94 F) 93 O) 88 A) 85 R) N T (fun r1 v1 => ∃ B2 F2 O2 A2, r1 = some (vJ (dgV (ctF (sa (sa (sa (sa (sa (sa v 84 (rs G 13 0)) 92 B) 94 F) 93 O) 88 A) 85 R)) R (v 89) (v 90) n)) ∧ v1 = sa (sa (sa (sa (sa (sa v 84 (rs G 13 0)) 92 B2) 94 F2) 93 O2) 88 A2) 85 R) := by
  refine RunsP.of (by decide) (Nat.le_of_ble_eq_true rfl) fun κ C => ?_
  refine M_aload_n (pc := 0) C dX8_digest_0 rfl (by decide) ?_
  refine M_iconst (pc := 1) C dX8_digest_1 ?_
  refine A_putI (pc := 2) C fl_X8_41 rfl (by decide) (a := 84) rfl (tt_84 hT) (by omega) dX8_digest_2 ?_
  refine M.to (pc := 5) (v2 := sa (sa (sa (sa (sa (sa v 84 (rs G 13 0)) 92 B) 94 F) 93 O) 88 A) 85 R) ?_ rfl rfl (by rw [sa_up1 (by decide), sa_up1 (by decide), sa_up1 (by decide), sa_up1 (by decide), sa_up1 (by decide), sa_up0])
  refine M_ldc2 (pc := 5) C lc_X8_249 (z := 3499) rfl dX8_digest_5 ?_
  refine M_lstore_n (pc := 8) C dX8_digest_8 (by decide) ?_
  refine M_iconst (pc := 9) C dX8_digest_9 ?_
  refine M_istore_n (pc := 10) C dX8_digest_10 (by decide) ?_
  refine loop_le (P := fun i => M κ N T 11 [some (vR 84), some (vJ (hsN 3499 (ctF (sa (sa (sa (sa (sa (sa v 84 (rs G 13 0)) 92 B) 94 F) 93 O) 88 A) 85 R)) i)), none, some (vI ((i : Nat) : Int)), none] [] (sa (sa (sa (sa (sa (sa v 84 (rs G 13 0)) 92 B) 94 F) 93 O) 88 A) 85 R) 0 0 (QP κ N T (fun r1 v1 => ∃ B2 F2 O2 A2, r1 = some (vJ (dgV (ctF (sa (sa (sa (sa (sa (sa v 84 (rs G 13 0)) 92 B) 94 F) 93 O) 88 A) 85 R)) R (v 89) (v 90) n)) ∧ v1 = sa (sa (sa (sa (sa (sa v 84 (rs G 13 0)) 92 B2) 94 F2) 93 O2) 88 A2) 85 R) 0 0)) 12 (fun i hi ih => ?_)
  refine M_iload_n (pc := 11) C dX8_digest_11 rfl ?_
  refine M_bipush (pc := 12) C (by decide) dX8_digest_12 ?_
  refine M_icmp_ge (pc := 14) C (tgt := 36) (by omega) (by omega) dX8_digest_14 (by decide) (fun h_14 => ?_) (fun h_14 => ?_)
  · have hi12 : i = 12 := by omega
    subst hi12
    refine M_aload_n (pc := 36) C dX8_digest_36 rfl (by decide) ?_
    refine M_lload_n (pc := 37) C dX8_digest_37 rfl ?_
    refine A_cV (pc := 38) C (x := vJ (hfN R (hsN 3499 (ctF (sa (sa (sa (sa (sa (sa v 84 (rs G 13 0)) 92 B) 94 F) 93 O) 88 A) 85 R)) 12) 10)) (a := 84) (c := 8) (c_X8_ofFiles hT (v := sa (sa (sa (sa v 84 (rs G 13 0)) 92 B) 94 F) 93 O) (A := A) (R := R) (h := hsN 3499 (ctF (sa (sa (sa (sa (sa (sa v 84 (rs G 13 0)) 92 B) 94 F) 93 O) 88 A) 85 R)) 12) hI) yw_X8_ofFiles lk_X8_251 rfl (congrArg Prod.fst (tt_84 hT)) hc_8 rfl dX8_digest_38 rfl (Nat.le_of_ble_eq_true rfl) (by decide) ⟨Nat.le_refl _, Nat.le_refl _⟩ ?_
    refine M_lstore_n (pc := 41) C dX8_digest_41 (by decide) ?_
    refine M_iconst (pc := 42) C dX8_digest_42 ?_
    refine M_istore_n (pc := 43) C dX8_digest_43 (by decide) ?_
    refine loop_le (P := fun i2 => M κ N T 44 [some (vR 84), some (vJ (hbN R (hfN R (hsN 3499 (ctF (sa (sa (sa (sa (sa (sa v 84 (rs G 13 0)) 92 B) 94 F) 93 O) 88 A) 85 R)) 12) 10) i2)), none, some (vI ((i2 : Nat) : Int)), none] [] (sa (sa (sa (sa (sa (sa v 84 (rs G 13 0)) 92 B) 94 F) 93 O) 88 (hfA R A 10)) 85 R) 0 0 (QP κ N T (fun r1 v1 => ∃ B2 F2 O2 A2, r1 = some (vJ (dgV (ctF (sa (sa (sa (sa (sa (sa v 84 (rs G 13 0)) 92 B) 94 F) 93 O) 88 A) 85 R)) R (v 89) (v 90) n)) ∧ v1 = sa (sa (sa (sa (sa (sa v 84 (rs G 13 0)) 92 B2) 94 F2) 93 O2) 88 A2) 85 R) 0 0)) 24 (fun i2 hi2 ih2 => ?_)
    refine M_iload_n (pc := 44) C dX8_digest_44 rfl ?_
    refine M_bipush (pc := 45) C (by decide) dX8_digest_45 ?_
    refine M_icmp_ge (pc := 47) C (tgt := 86) (by omega) (by omega) dX8_digest_47 (by decide) (fun h_47 => ?_) (fun h_47 => ?_)
    · have hi24 : i2 = 24 := by omega
      subst hi24
      obtain ⟨h0, e0⟩ : ∃ x : Int, x = hbN R (hfN R (hsN 3499 (ctF (sa (sa (sa (sa (sa (sa v 84 (rs G 13 0)) 92 B) 94 F) 93 O) 88 A) 85 R)) 12) 10) 24 := ⟨_, rfl⟩
      refine M.to (L2 := [some (vR 84), some (vJ h0), none, some (vI ((24 : Nat) : Int)), none]) ?_ (by rw [e0]) rfl rfl
      refine M_ldc2 (pc := 86) C lc_X8_247 (z := 31) rfl dX8_digest_86 ?_
      refine M_lload_n (pc := 89) C dX8_digest_89 rfl ?_
      refine M_lmul (pc := 90) C dX8_digest_90 ?_
      refine M_aload_n (pc := 91) C dX8_digest_91 rfl (by decide) ?_
      refine M_iconst (pc := 92) C dX8_digest_92 ?_
      refine A_cV (pc := 93) C (x := vI (plcF R 1)) (a := 84) (c := 8) (c_X8_placeFor hT hI (x := 1) (by omega)) yw_X8_placeFor lk_X8_103 rfl (congrArg Prod.fst (tt_84 hT)) hc_8 rfl dX8_digest_93 rfl (Nat.le_of_ble_eq_true rfl) (by decide) ⟨Nat.le_refl _, Nat.le_refl _⟩ ?_
      have hp_93 := plcF_bd R 1
      refine M_wr (pc := 96) ?_
      refine M_i2l (pc := 96) C (wr_i32 _) dX8_digest_96 ?_
      refine M_ladd (pc := 97) C dX8_digest_97 ?_
      refine M_lstore_n (pc := 98) C dX8_digest_98 (by decide) ?_
      obtain ⟨h1, e1⟩ : ∃ x : Int, x = 31 * h0 + wr (plcF R 1) := ⟨_, rfl⟩
      refine M.to (L2 := [some (vR 84), some (vJ h1), none, some (vI ((24 : Nat) : Int)), none]) ?_ (by rw [e1]; rfl) rfl rfl
      refine M_ldc2 (pc := 99) C lc_X8_247 (z := 31) rfl dX8_digest_99 ?_
      refine M_lload_n (pc := 102) C dX8_digest_102 rfl ?_
      refine M_lmul (pc := 103) C dX8_digest_103 ?_
      refine M_aload_n (pc := 104) C dX8_digest_104 rfl (by decide) ?_
      refine M_iconst (pc := 105) C dX8_digest_105 ?_
      refine A_cV (pc := 106) C (x := vI (plcF R 5)) (a := 84) (c := 8) (c_X8_placeFor hT hI (x := 5) (by omega)) yw_X8_placeFor lk_X8_103 rfl (congrArg Prod.fst (tt_84 hT)) hc_8 rfl dX8_digest_106 rfl (Nat.le_of_ble_eq_true rfl) (by decide) ⟨Nat.le_refl _, Nat.le_refl _⟩ ?_
      have hp_106 := plcF_bd R 5
      refine M_wr (pc := 109) ?_
      refine M_i2l (pc := 109) C (wr_i32 _) dX8_digest_109 ?_
      refine M_ladd (pc := 110) C dX8_digest_110 ?_
      refine M_lstore_n (pc := 111) C dX8_digest_111 (by decide) ?_
      obtain ⟨h2, e2⟩ : ∃ x : Int, x = 31 * h1 + wr (plcF R 5) := ⟨_, rfl⟩
      refine M.to (L2 := [some (vR 84), some (vJ h2), none, some (vI ((24 : Nat) : Int)), none]) ?_ (by rw [e2]; rfl) rfl rfl
      refine M_ldc2 (pc := 112) C lc_X8_247 (z := 31) rfl dX8_digest_112 ?_
      refine M_lload_n (pc := 115) C dX8_digest_115 rfl ?_
      refine M_lmul (pc := 116) C dX8_digest_116 ?_
      refine M_aload_n (pc := 117) C dX8_digest_117 rfl (by decide) ?_
      refine M_bipush (pc := 118) C (by decide) dX8_digest_118 ?_
      refine A_cV (pc := 120) C (x := vI (plcF R 15)) (a := 84) (c := 8) (c_X8_placeFor hT hI (x := 15) (by omega)) yw_X8_placeFor lk_X8_103 rfl (congrArg Prod.fst (tt_84 hT)) hc_8 rfl dX8_digest_120 rfl (Nat.le_of_ble_eq_true rfl) (by decide) ⟨Nat.le_refl _, Nat.le_refl _⟩ ?_
      have hp_120 := plcF_bd R 15
      refine M_wr (pc := 123) ?_
      refine M_i2l (pc := 123) C (wr_i32 _) dX8_digest_123 ?_
      refine M_ladd (pc := 124) C dX8_digest_124 ?_
      refine M_lstore_n (pc := 125) C dX8_digest_125 (by decide) ?_
      obtain ⟨h3, e3⟩ : ∃ x : Int, x = 31 * h2 + wr (plcF R 15) := ⟨_, rfl⟩
      refine M.to (L2 := [some (vR 84), some (vJ h3), none, some (vI ((24 : Nat) : Int)), none]) ?_ (by rw [e3]; rfl) rfl rfl
      refine M_ldc2 (pc := 126) C lc_X8_247 (z := 31) rfl dX8_digest_126 ?_
      refine M_lload_n (pc := 129) C dX8_digest_129 rfl ?_
      refine M_lmul (pc := 130) C dX8_digest_130 ?_
      refine M_aload_n (pc := 131) C dX8_digest_131 rfl (by decide) ?_
      refine A_cV (pc := 132) C (x := vI (grF R)) (a := 84) (c := 8) (c_X8_greatestSize hT hI) yw_X8_greatestSize lk_X8_231 rfl (congrArg Prod.fst (tt_84 hT)) hc_8 rfl dX8_digest_132 rfl (Nat.le_of_ble_eq_true rfl) (by decide) ⟨Nat.le_refl _, Nat.le_refl _⟩ ?_
      refine M_wr (pc := 135) ?_
      refine M_i2l (pc := 135) C (wr_i32 _) dX8_digest_135 ?_
      refine M_ladd (pc := 136) C dX8_digest_136 ?_
      refine M_lstore_n (pc := 137) C dX8_digest_137 (by decide) ?_
      obtain ⟨h4, e4⟩ : ∃ x : Int, x = 31 * h3 + wr (grF R) := ⟨_, rfl⟩
      refine M.to (L2 := [some (vR 84), some (vJ h4), none, some (vI ((24 : Nat) : Int)), none]) ?_ (by rw [e4]; rfl) rfl rfl
      refine M_ldc2 (pc := 138) C lc_X8_247 (z := 31) rfl dX8_digest_138 ?_
      refine M_lload_n (pc := 141) C dX8_digest_141 rfl ?_
      refine M_lmul (pc := 142) C dX8_digest_142 ?_
      refine M_aload_n (pc := 143) C dX8_digest_143 rfl (by decide) ?_
      refine A_pV (pc := 144) C (a := 84) (c := 8) (c_X8_fewestBlocks_g hT (v := sa v 84 (rs G 13 0)) (B := B) (F := F) (O := O) (A := hfA R A 10) (R := R) hI) yw_X8_fewestBlocks lk_X8_234 rfl (congrArg Prod.fst (tt_84 hT)) hc_8 rfl dX8_digest_144 rfl (Nat.le_of_ble_eq_true rfl) (by decide) ⟨Nat.le_refl _, Nat.le_refl _⟩ (fun r_144 v_144 p_144 => ?_)
      obtain ⟨B_144, rfl, rfl⟩ := p_144
      refine M.to (pc := 147) (st2 := [vI (fbG R), vJ (31 * h4)]) (v2 := sa (sa (sa (sa (sa (sa v 84 (rs G 13 0)) 92 B_144) 94 F) 93 (wrO O (srL R 150))) 88 (hfA R A 10)) 85 R) ?_ rfl rfl rfl
      refine M_wr (pc := 147) ?_
      refine M_i2l (pc := 147) C (wr_i32 _) dX8_digest_147 ?_
      refine M_ladd (pc := 148) C dX8_digest_148 ?_
      refine M_lstore_n (pc := 149) C dX8_digest_149 (by decide) ?_
      obtain ⟨h5, e5⟩ : ∃ x : Int, x = 31 * h4 + wr (fbG R) := ⟨_, rfl⟩
      refine M.to (L2 := [some (vR 84), some (vJ h5), none, some (vI ((24 : Nat) : Int)), none]) ?_ (by rw [e5]; rfl) rfl rfl
      refine M_ldc2 (pc := 150) C lc_X8_247 (z := 31) rfl dX8_digest_150 ?_
      refine M_lload_n (pc := 153) C dX8_digest_153 rfl ?_
      refine M_lmul (pc := 154) C dX8_digest_154 ?_
      refine M_aload_n (pc := 155) C dX8_digest_155 rfl (by decide) ?_
      refine A_pV (pc := 156) C (a := 84) (c := 8) (c_X8_fewestBlocks_g hT (v := sa v 84 (rs G 13 0)) (B := B_144) (F := F) (O := wrO O (srL R 150)) (A := hfA R A 10) (R := R) hI) yw_X8_fewestBlocks lk_X8_234 rfl (congrArg Prod.fst (tt_84 hT)) hc_8 rfl dX8_digest_156 rfl (Nat.le_of_ble_eq_true rfl) (by decide) ⟨Nat.le_refl _, Nat.le_refl _⟩ (fun r_156 v_156 p_156 => ?_)
      obtain ⟨B_156, rfl, rfl⟩ := p_156
      refine M.to (pc := 159) (st2 := [vI (fbG R), vJ (31 * h5)]) (v2 := sa (sa (sa (sa (sa (sa v 84 (rs G 13 0)) 92 B_156) 94 F) 93 (wrO (wrO O (srL R 150)) (srL R 150))) 88 (hfA R A 10)) 85 R) ?_ rfl rfl rfl
      refine M_wr (pc := 159) ?_
      refine M_i2l (pc := 159) C (wr_i32 _) dX8_digest_159 ?_
      refine M_ladd (pc := 160) C dX8_digest_160 ?_
      refine M_lstore_n (pc := 161) C dX8_digest_161 (by decide) ?_
      obtain ⟨h6, e6⟩ : ∃ x : Int, x = 31 * h5 + wr (fbG R) := ⟨_, rfl⟩
      refine M.to (L2 := [some (vR 84), some (vJ h6), none, some (vI ((24 : Nat) : Int)), none]) ?_ (by rw [e6]; rfl) rfl rfl
      refine M_ldc2 (pc := 162) C lc_X8_247 (z := 31) rfl dX8_digest_162 ?_
      refine M_lload_n (pc := 165) C dX8_digest_165 rfl ?_
      refine M_lmul (pc := 166) C dX8_digest_166 ?_
      refine M_aload_n (pc := 167) C dX8_digest_167 rfl (by decide) ?_
      refine A_pV (pc := 168) C (a := 84) (c := 8) (c_X8_afterPacking hT (v := sa (sa v 84 (rs G 13 0)) 92 B_156) (F := F) (O := wrO (wrO O (srL R 150)) (srL R 150)) (A := hfA R A 10) (R := R) hI) yw_X8_afterPacking lk_X8_237 rfl (congrArg Prod.fst (tt_84 hT)) hc_8 rfl dX8_digest_168 rfl (Nat.le_of_ble_eq_true rfl) (by decide) ⟨Nat.le_refl _, Nat.le_refl _⟩ (fun r_168 v_168 p_168 => ?_)
      obtain ⟨F_168, rfl, rfl⟩ := p_168
      refine M.to (pc := 171) (st2 := [vI (pkV R), vJ (31 * h6)]) (v2 := sa (sa (sa (sa (sa (sa v 84 (rs G 13 0)) 92 B_156) 94 F_168) 93 (wrO (wrO (wrO O (srL R 150)) (srL R 150)) (srL R 150))) 88 (cpA (hfA R A 10) R 0 0 207)) 85 R) ?_ rfl rfl rfl
      refine M_wr (pc := 171) ?_
      refine M_i2l (pc := 171) C (wr_i32 _) dX8_digest_171 ?_
      refine M_ladd (pc := 172) C dX8_digest_172 ?_
      refine M_lstore_n (pc := 173) C dX8_digest_173 (by decide) ?_
      obtain ⟨h7, e7⟩ : ∃ x : Int, x = 31 * h6 + wr (pkV R) := ⟨_, rfl⟩
      refine M.to (L2 := [some (vR 84), some (vJ h7), none, some (vI ((24 : Nat) : Int)), none]) ?_ (by rw [e7]; rfl) rfl rfl
      refine M_ldc2 (pc := 174) C lc_X8_247 (z := 31) rfl dX8_digest_174 ?_
      refine M_lload_n (pc := 177) C dX8_digest_177 rfl ?_
      refine M_lmul (pc := 178) C dX8_digest_178 ?_
      refine M_aload_n (pc := 179) C dX8_digest_179 rfl (by decide) ?_
      refine A_cV (pc := 180) C (x := vI ((wkN (wkB R) 24).1)) (a := 84) (c := 8) (c_X8_weakestBlock hT hI) yw_X8_weakestBlock lk_X8_240 rfl (congrArg Prod.fst (tt_84 hT)) hc_8 rfl dX8_digest_180 rfl (Nat.le_of_ble_eq_true rfl) (by decide) ⟨Nat.le_refl _, Nat.le_refl _⟩ ?_
      refine M_wr (pc := 183) ?_
      refine M_i2l (pc := 183) C (wr_i32 _) dX8_digest_183 ?_
      refine M_ladd (pc := 184) C dX8_digest_184 ?_
      refine M_lstore_n (pc := 185) C dX8_digest_185 (by decide) ?_
      obtain ⟨h8, e8⟩ : ∃ x : Int, x = 31 * h7 + wr (wkN (wkB R) 24).1 := ⟨_, rfl⟩
      refine M.to (L2 := [some (vR 84), some (vJ h8), none, some (vI ((24 : Nat) : Int)), none]) ?_ (by rw [e8]; rfl) rfl rfl
      refine M_ldc2 (pc := 186) C lc_X8_247 (z := 31) rfl dX8_digest_186 ?_
      refine M_lload_n (pc := 189) C dX8_digest_189 rfl ?_
      refine M_lmul (pc := 190) C dX8_digest_190 ?_
      refine M_aload_n (pc := 191) C dX8_digest_191 rfl (by decide) ?_
      refine A_cV (pc := 192) C (x := vD (usF R)) (a := 84) (c := 8) (c_X8_used hT hI hu) yw_X8_used lk_X8_243 rfl (congrArg Prod.fst (tt_84 hT)) hc_8 rfl dX8_digest_192 rfl (Nat.le_of_ble_eq_true rfl) (by decide) ⟨Nat.le_refl _, Nat.le_refl _⟩ ?_
      refine A_cS (pc := 195) C (x := vJ ((usF R).toInt64.toInt)) (c_Jxe99ae_doubleToLongBits_ccdee hT (x := usF R) hu) yw_Jxe99ae_doubleToLongBits_ccdee lk_X8_255 rfl dX8_digest_195 rfl (Nat.le_of_ble_eq_true rfl) (by decide) ⟨Nat.le_refl _, Nat.le_refl _⟩ ?_
      refine M_ladd (pc := 198) C dX8_digest_198 ?_
      refine M_lstore_n (pc := 199) C dX8_digest_199 (by decide) ?_
      obtain ⟨h9, e9⟩ : ∃ x : Int, x = 31 * h8 + (usF R).toInt64.toInt := ⟨_, rfl⟩
      refine M.to (L2 := [some (vR 84), some (vJ h9), none, some (vI ((24 : Nat) : Int)), none]) ?_ (by rw [e9]; rfl) rfl rfl
      have e10 : h9 = dg5 R (hfN R (hsN 3499 (ctF (sa (sa (sa (sa (sa (sa v 84 (rs G 13 0)) 92 B) 94 F) 93 O) 88 A) 85 R)) 12) 10) := by rw [e9, e8, e7, e6, e5, e4, e3, e2, e1, e0]; rfl
      refine M_iconst (pc := 200) C dX8_digest_200 ?_
      refine M_istore_n (pc := 201) C dX8_digest_201 (by decide) ?_
      refine loop_le (P := fun i3 => M κ N T 202 [some (vR 84), some (vJ (hhN h9 (fun k => Bi (decide (v 89 k ≠ 0))) i3)), none, some (vI ((i3 : Nat) : Int)), none] [] (sa (sa (sa (sa (sa (sa v 84 (rs G 13 0)) 92 B_156) 94 F_168) 93 (wrO (wrO (wrO O (srL R 150)) (srL R 150)) (srL R 150))) 88 (cpA (hfA R A 10) R 0 0 207)) 85 R) 0 0 (QP κ N T (fun r1 v1 => ∃ B2 F2 O2 A2, r1 = some (vJ (dgV (ctF (sa (sa (sa (sa (sa (sa v 84 (rs G 13 0)) 92 B) 94 F) 93 O) 88 A) 85 R)) R (v 89) (v 90) n)) ∧ v1 = sa (sa (sa (sa (sa (sa v 84 (rs G 13 0)) 92 B2) 94 F2) 93 O2) 88 A2) 85 R) 0 0)) 2 (fun i3 hi3 ih3 => ?_)
      refine M_iload_n (pc := 202) C dX8_digest_202 rfl ?_
      refine M_iconst (pc := 203) C dX8_digest_203 ?_
      refine M_icmp_ge (pc := 204) C (tgt := 235) (by omega) (by omega) dX8_digest_204 (by decide) (fun h_204 => ?_) (fun h_204 => ?_)
      · have hi22 : i3 = 2 := by omega
        subst hi22
        refine M_ldc2 (pc := 235) C lc_X8_247 (z := 31) rfl dX8_digest_235 ?_
        refine M_lload_n (pc := 238) C dX8_digest_238 rfl ?_
        refine M_lmul (pc := 239) C dX8_digest_239 ?_
        refine M_aload_n (pc := 240) C dX8_digest_240 rfl (by decide) ?_
        refine A_getI (pc := 241) C fl_X8_164 rfl (a := 84) rfl (tt_84 hT) dX8_digest_241 (fun (r_241 : i32 ((rs G 13 0) 7)) => ?_)
        refine M.to (pc := 244) (st2 := [vI ((rs G 13 0) 7), vJ (31 * (hhN h9 (fun k => Bi (decide (v 89 k ≠ 0))) 2))]) ?_ rfl rfl rfl
        refine M.to (st2 := [vI ((n : Nat) : Int), vJ (31 * hhN h9 (fun k => Bi (decide (v 89 k ≠ 0))) 2)]) ?_ rfl (by rw [show (rs G 13 0) 7 = G 7 from rs_ne (by decide) _, hl]) rfl
        refine M_i2l (pc := 244) C (by omega) dX8_digest_244 ?_
        refine M_ladd (pc := 245) C dX8_digest_245 ?_
        refine M_lstore_n (pc := 246) C dX8_digest_246 (by decide) ?_
        refine M_iconst (pc := 247) C dX8_digest_247 ?_
        refine M_istore_n (pc := 248) C dX8_digest_248 (by decide) ?_
        refine loop_le (P := fun i4 => M κ N T 249 [some (vR 84), some (vJ (hhN (31 * hhN h9 (fun k => Bi (decide (v 89 k ≠ 0))) 2 + ((n : Nat) : Int)) (v 90) i4)), none, some (vI ((i4 : Nat) : Int)), none] [] (sa (sa (sa (sa (sa (sa v 84 (rs G 13 0)) 92 B_156) 94 F_168) 93 (wrO (wrO (wrO O (srL R 150)) (srL R 150)) (srL R 150))) 88 (cpA (hfA R A 10) R 0 0 207)) 85 R) 0 0 (QP κ N T (fun r1 v1 => ∃ B2 F2 O2 A2, r1 = some (vJ (dgV (ctF (sa (sa (sa (sa (sa (sa v 84 (rs G 13 0)) 92 B) 94 F) 93 O) 88 A) 85 R)) R (v 89) (v 90) n)) ∧ v1 = sa (sa (sa (sa (sa (sa v 84 (rs G 13 0)) 92 B2) 94 F2) 93 O2) 88 A2) 85 R) 0 0)) n (fun i4 hi4 ih4 => ?_)
        refine M_iload_n (pc := 249) C dX8_digest_249 rfl ?_
        refine M_aload_n (pc := 250) C dX8_digest_250 rfl (by decide) ?_
        refine A_getI (pc := 251) C fl_X8_164 rfl (a := 84) rfl (tt_84 hT) dX8_digest_251 (fun (r_251 : i32 ((rs G 13 0) 7)) => ?_)
        refine M.to (pc := 254) (st2 := [vI ((rs G 13 0) 7), vI ((i4 : Nat) : Int)]) ?_ rfl rfl rfl
        refine M.to (st2 := [vI ((n : Nat) : Int), vI ((i4 : Nat) : Int)]) ?_ rfl (by rw [show (rs G 13 0) 7 = G 7 from rs_ne (by decide) _, hl]) rfl
        refine M_icmp_ge (pc := 254) C (tgt := 277) (by omega) (by omega) dX8_digest_254 (by decide) (fun h_254 => ?_) (fun h_254 => ?_)
        · have hin4 : i4 = n := by omega
          subst hin4
          rw [e10]
          refine M_lload_n (pc := 277) C dX8_digest_277 rfl ?_
          exact M_lretP (pc := 278) C rfl dX8_digest_278 ⟨_, _, _, _, rfl, rfl⟩
        · refine M_ldc2 (pc := 257) C lc_X8_247 (z := 31) rfl dX8_digest_257 ?_
          refine M_lload_n (pc := 260) C dX8_digest_260 rfl ?_
          refine M_lmul (pc := 261) C dX8_digest_261 ?_
          refine M_aload_n (pc := 262) C dX8_digest_262 rfl (by decide) ?_
          refine A_getR (pc := 263) C fl_X8_26 rfl (a := 84) (j := 90) rfl (tt_84 hT) rfl dX8_digest_263 ?_
          refine M_iload_n (pc := 266) C dX8_digest_266 rfl ?_
          refine A_iald (pc := 267) C (a := 90) (q := i4) rfl (tt_90 hT) (by decide) rfl (by omega) dX8_digest_267 (fun (r_267 : i32 (v 90 i4)) => ?_)
          refine M.to (pc := 268) (st2 := [vI (v 90 i4), vJ (31 * (hhN (31 * hhN h9 (fun k => Bi (decide (v 89 k ≠ 0))) 2 + ((n : Nat) : Int)) (v 90) i4))]) ?_ rfl rfl rfl
          refine M_i2l (pc := 268) C (by omega) dX8_digest_268 ?_
          refine M_ladd (pc := 269) C dX8_digest_269 ?_
          refine M_lstore_n (pc := 270) C dX8_digest_270 (by decide) ?_
          refine M_iinc (pc := 271) C dX8_digest_271 rfl (by decide) ?_
          refine M_goto (pc := 274) C (tgt := 249) dX8_digest_274 (by decide) ?_
          exact M.to (ih4 (by omega)) rfl rfl rfl
      · refine M_ldc2 (pc := 207) C lc_X8_247 (z := 31) rfl dX8_digest_207 ?_
        refine M_lload_n (pc := 210) C dX8_digest_210 rfl ?_
        refine M_lmul (pc := 211) C dX8_digest_211 ?_
        refine M_aload_n (pc := 212) C dX8_digest_212 rfl (by decide) ?_
        refine A_getR (pc := 213) C fl_X8_22 rfl (a := 84) (j := 89) rfl (tt_84 hT) rfl dX8_digest_213 ?_
        refine M_iload_n (pc := 216) C dX8_digest_216 rfl ?_
        refine A_zald (pc := 217) C (a := 89) (q := i3) rfl (tt_89 hT) (by decide) rfl (by omega) dX8_digest_217 (fun (r_217 : i32 (v 89 i3)) => ?_)
        refine M.to (pc := 218) (st2 := [vI (v 89 i3), vJ (31 * (hhN h9 (fun k => Bi (decide (v 89 k ≠ 0))) i3))]) ?_ rfl rfl rfl
        refine T_if_eq (pc := 218) C (by omega) dX8_digest_218 dX8_digest_221 dX8_digest_222 dX8_digest_225 ?_
        refine M_i2l (pc := 226) C (Bi_i32 _) dX8_digest_226 ?_
        refine M_ladd (pc := 227) C dX8_digest_227 ?_
        refine M_lstore_n (pc := 228) C dX8_digest_228 (by decide) ?_
        refine M_iinc (pc := 229) C dX8_digest_229 rfl (by decide) ?_
        refine M_goto (pc := 232) C (tgt := 202) dX8_digest_232 (by decide) ?_
        exact M.to (ih3 (by omega)) rfl rfl rfl
    · refine M_iconst (pc := 50) C dX8_digest_50 ?_
      refine M_istore (pc := 51) C dX8_digest_51 (by decide) ?_
      refine loop_le (P := fun k => M κ N T 53 [some (vR 84), some (vJ (hsN (hbN R (hfN R (hsN 3499 (ctF (sa (sa (sa (sa (sa (sa v 84 (rs G 13 0)) 92 B) 94 F) 93 O) 88 A) 85 R)) 12) 10) i2) (biF R i2) k)), none, some (vI ((i2 : Nat) : Int)), some (vI ((k : Nat) : Int))] [] (sa (sa (sa (sa (sa (sa v 84 (rs G 13 0)) 92 B) 94 F) 93 O) 88 (hfA R A 10)) 85 R) 0 0 (QP κ N T (fun r1 v1 => ∃ B2 F2 O2 A2, r1 = some (vJ (dgV (ctF (sa (sa (sa (sa (sa (sa v 84 (rs G 13 0)) 92 B) 94 F) 93 O) 88 A) 85 R)) R (v 89) (v 90) n)) ∧ v1 = sa (sa (sa (sa (sa (sa v 84 (rs G 13 0)) 92 B2) 94 F2) 93 O2) 88 A2) 85 R) 0 0)) 5 (fun k hk ihk => ?_)
      have hk5 : i2 < 24 := by omega
      refine M_iload (pc := 53) C dX8_digest_53 rfl ?_
      refine M_iconst (pc := 55) C dX8_digest_55 ?_
      refine M_icmp_ge (pc := 56) C (tgt := 80) (by omega) (by omega) dX8_digest_56 (by decide) (fun h_56 => ?_) (fun h_56 => ?_)
      · have hk5 : k = 5 := by omega
        subst hk5
        refine M_iinc (pc := 80) C dX8_digest_80 rfl (by decide) ?_
        refine M_goto (pc := 83) C (tgt := 44) dX8_digest_83 (by decide) ?_
        refine M.drop [true, true, true, true, false] rfl ?_
        exact M.to (ih2 (by omega)) rfl rfl rfl
      · refine M_ldc2 (pc := 59) C lc_X8_247 (z := 31) rfl dX8_digest_59 ?_
        refine M_lload_n (pc := 62) C dX8_digest_62 rfl ?_
        refine M_lmul (pc := 63) C dX8_digest_63 ?_
        refine M_aload_n (pc := 64) C dX8_digest_64 rfl (by decide) ?_
        refine M_iload_n (pc := 65) C dX8_digest_65 rfl ?_
        refine M_iload (pc := 66) C dX8_digest_66 rfl ?_
        refine A_cV (pc := 68) C (x := vI (biF R i2 k)) (a := 84) (c := 8) (c_X8_blockIs hT hI (b := i2) (w := k) (by omega) (by omega)) yw_X8_blockIs lk_X8_210 rfl (congrArg Prod.fst (tt_84 hT)) hc_8 rfl dX8_digest_68 rfl (Nat.le_of_ble_eq_true rfl) (by decide) ⟨Nat.le_refl _, Nat.le_refl _⟩ ?_
        refine M_wr (pc := 71) ?_
        refine M_i2l (pc := 71) C (wr_i32 _) dX8_digest_71 ?_
        refine M_ladd (pc := 72) C dX8_digest_72 ?_
        refine M_lstore_n (pc := 73) C dX8_digest_73 (by decide) ?_
        refine M_iinc (pc := 74) C dX8_digest_74 rfl (by decide) ?_
        refine M_goto (pc := 77) C (tgt := 53) dX8_digest_77 (by decide) ?_
        exact M.to (ihk (by omega)) rfl rfl rfl
  · refine M_ldc2 (pc := 17) C lc_X8_247 (z := 31) rfl dX8_digest_17 ?_
    refine M_lload_n (pc := 20) C dX8_digest_20 rfl ?_
    refine M_lmul (pc := 21) C dX8_digest_21 ?_
    refine M_aload_n (pc := 22) C dX8_digest_22 rfl (by decide) ?_
    refine M_iload_n (pc := 23) C dX8_digest_23 rfl ?_
    refine A_cV (pc := 24) C (x := vI (ctF (sa (sa (sa (sa (sa (sa v 84 (rs G 13 0)) 92 B) 94 F) 93 O) 88 A) 85 R) i)) (a := 84) (c := 8) (c_X8_counted hT hI (w := i) (by omega)) yw_X8_counted lk_X8_222 rfl (congrArg Prod.fst (tt_84 hT)) hc_8 rfl dX8_digest_24 rfl (Nat.le_of_ble_eq_true rfl) (by decide) ⟨Nat.le_refl _, Nat.le_refl _⟩ ?_
    refine M_wr (pc := 27) ?_
    refine M_i2l (pc := 27) C (wr_i32 _) dX8_digest_27 ?_
    refine M_ladd (pc := 28) C dX8_digest_28 ?_
    refine M_lstore_n (pc := 29) C dX8_digest_29 (by decide) ?_
    refine M_iinc (pc := 30) C dX8_digest_30 rfl (by decide) ?_
    refine M_goto (pc := 33) C (tgt := 11) dX8_digest_33 (by decide) ?_
    exact M.to (ih (by omega)) rfl rfl rfl
