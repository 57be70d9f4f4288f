theorem c_X0_blocksOfR {N : Nat} {T : Ty} {r : Nat → Int} {c : Int} {v : Ct} {x : Int} (hT : TT T) (hV : DV v 1 r c) (hx : i32 x) : Runs mX0_blocksOf 0 0 0 [vR 1, vI x] N T v (some (vI (cntK r x))) N T v := by
  have hH : DR (v 2) (v 3) (v 4) (v 5) (v 6) (v 7) (v 8) (v 9) r := hV.1
  have hD := hH.DI
  rw [← hH.cnt]
  exact c_X0_blocksOf hT hx
theorem c_X0_filePropertyR {N : Nat} {T : Ty} {r : Nat → Int} {c : Int} {v : Ct} {f w : Nat} (hT : TT T) (hV : DV v 1 r c) (hf : f < 10) (hfi : ro r f 0 = 1) (hw : w < 7) : Runs mX0_fileProperty 1 0 0 [vR 1, vI ((f : Nat) : Int), vI ((w : Nat) : Int)] N T v (some (vI (prF r f w))) N T v := by
  have hH : DR (v 2) (v 3) (v 4) (v 5) (v 6) (v 7) (v 8) (v 9) r := hV.1
  have hD := hH.DI
  rw [← hH.fp hf (hH.zf hf hfi) hw]
  exact c_X0_fileProperty hT hD hf (hH.zf hf hfi) hw
theorem c_X0_blockPropertyR {N : Nat} {T : Ty} {r : Nat → Int} {c : Int} {v : Ct} {b w : Nat} (hT : TT T) (hV : DV v 1 r c) (hb : b < 24) (hw : w < 5) : Runs mX0_blockProperty 3 0 0 [vR 1, vI ((b : Nat) : Int), vI ((w : Nat) : Int)] N T v (some (vI (biF r b w))) N T v := by
  have hH : DR (v 2) (v 3) (v 4) (v 5) (v 6) (v 7) (v 8) (v 9) r := hV.1
  have hD := hH.DI
  rw [← hH.bp hb hw]
  exact c_X0_blockProperty hT hD hb hw
theorem c_X0_sizeOfR {N : Nat} {T : Ty} {r : Nat → Int} {c : Int} {v : Ct} {f : Nat} (hT : TT T) (hV : DV v 1 r c) (hf : f < 10) (hfi : ro r f 0 = 1) : Runs mX0_sizeOf 1 0 0 [vR 1, vI ((f : Nat) : Int)] N T v (some (vI (ro r f 1))) N T v := by
  have hH : DR (v 2) (v 3) (v 4) (v 5) (v 6) (v 7) (v 8) (v 9) r := hV.1
  have hD := hH.DI
  rw [show ro r f 1 = (if v 5 f = -1 then 0 else v 5 f) by rw [if_neg (hH.zf hf hfi), hH.sz hf hfi]]
  exact c_X0_sizeOf hT hf
theorem c_X0_whereIsR {N : Nat} {T : Ty} {r : Nat → Int} {c : Int} {v : Ct} {f q : Nat} (hT : TT T) (hV : DV v 1 r c) (hf : f < 10) (hfi : ro r f 0 = 1) (hq : (q : Int) < ro r f 1) : Runs mX0_whereIs 2 0 0 [vR 1, vI ((f : Nat) : Int), vI ((q : Nat) : Int)] N T v (some (vI (plO r f q))) N T v := by
  have hH : DR (v 2) (v 3) (v 4) (v 5) (v 6) (v 7) (v 8) (v 9) r := hV.1
  have hD := hH.DI
  rw [← hH.wi hf (by rw [hH.sz hf hfi]; exact hq)]
  exact c_X0_whereIs hT hD hf (hH.zf hf hfi) (fun h => hH.tb hf h (hH.zf hf hfi)) (by rw [hH.sz hf hfi]; exact hq)
theorem c_X0_growthOfR {N : Nat} {T : Ty} {r : Nat → Int} {c : Int} {v : Ct} {f n : Nat} (hT : TT T) (hV : DV v 1 r c) (hf : f < 10) (hfi : ro r f 0 = 1) (hn : 1 ≤ n ∧ n ≤ 200) : Runs mX0_growthOf 3 0 0 [vR 1, vI ((f : Nat) : Int), vI ((n : Nat) : Int)] N T v (some (vI (opV (gwO r f n)))) N T v := by
  have hH : DR (v 2) (v 3) (v 4) (v 5) (v 6) (v 7) (v 8) (v 9) r := hV.1
  have hD := hH.DI
  rw [← hH.go hf hfi hn]
  exact c_X0_growthOf hT hD hf (hH.zf hf hfi) (by omega)
theorem c_X0_placeForR {N : Nat} {T : Ty} {r : Nat → Int} {c : Int} {v : Ct} {x : Int} (hT : TT T) (hV : DV v 1 r c) (hx : i32 x) : Runs mX0_placeFor 2 0 0 [vR 1, vI x] N T v (some (vI (plcF r x))) N T v := by
  have hH : DR (v 2) (v 3) (v 4) (v 5) (v 6) (v 7) (v 8) (v 9) r := hV.1
  have hD := hH.DI
  rw [← hH.pl (show v 1 10 = r 2 from hV.2.2.2.1)]
  exact c_X0_placeFor hT hD hx
theorem c_X7_greatestR {N : Nat} {T : Ty} {r : Nat → Int} {c : Int} {v : Ct}  (hT : TT T) (hV : DV v 1 r c)  : Runs mX7_greatest 4 0 0 [vR 0] N T v (some (vI (grF r))) N T v := by
  have hH : DR (v 2) (v 3) (v 4) (v 5) (v 6) (v 7) (v 8) (v 9) r := hV.1
  have hD := hH.DI
  rw [← hH.gr]
  exact c_X7_greatest hT hD
theorem c_X7_weakestR {N : Nat} {T : Ty} {r : Nat → Int} {c : Int} {v : Ct}  (hT : TT T) (hV : DV v 1 r c)  : Runs mX7_weakest 3 0 0 [vR 0] N T v (some (vI (wkN (wkB r) 24).1)) N T v := by
  have hH : DR (v 2) (v 3) (v 4) (v 5) (v 6) (v 7) (v 8) (v 9) r := hV.1
  have hD := hH.DI
  rw [← hH.wk]
  exact c_X7_weakest hT
theorem c_X7_usedShare {N : Nat} {T : Ty} {r : Nat → Int} {c : Int} {s : Nat} {v : Ct} (hT : TT T) (hV : DV v 1 r c) (hs : v 10 1 = (s : Int)) : Runs mX7_usedShare 5 0 0 [vR 0] N T v (some (vD (usF r))) N T v := by
  have hH : DR (v 2) (v 3) (v 4) (v 5) (v 6) (v 7) (v 8) (v 9) r := hV.1
  have hc1 := cntK_bd r 1
  have hc2 := cntK_bd r 2
  have hu := hH.us.1
  refine Runs.of (by decide) (Nat.le_of_ble_eq_true rfl) fun κ C => ?_
  refine M_bipush (pc := 0) C (by decide) dX7_usedShare_0 ?_
  refine M_aload_n (pc := 2) C dX7_usedShare_2 rfl (by decide) ?_
  refine A_getR (pc := 3) C fl_X7_12 rfl (a := 0) (j := 1) rfl (tt_0 hT) rfl dX7_usedShare_3 ?_
  refine M_iconst (pc := 6) C dX7_usedShare_6 ?_
  refine A_cV (pc := 7) C (x := vI (cntK r 1)) (a := 1) (c := 0) (c_X0_blocksOfR (v := v) hT hV (x := 1) (by omega)) yw_X0_blocksOf lk_X7_108 rfl (congrArg Prod.fst (tt_1 hT)) hc_0 rfl dX7_usedShare_7 rfl (Nat.le_of_ble_eq_true rfl) (by decide) ⟨Nat.le_refl _, Nat.le_refl _⟩ ?_
  refine M_aload_n (pc := 10) C dX7_usedShare_10 rfl (by decide) ?_
  refine A_getR (pc := 11) C fl_X7_12 rfl (a := 0) (j := 1) rfl (tt_0 hT) rfl dX7_usedShare_11 ?_
  refine M_iconst (pc := 14) C dX7_usedShare_14 ?_
  refine A_cV (pc := 15) C (x := vI (cntK r 2)) (a := 1) (c := 0) (c_X0_blocksOfR (v := v) hT hV (x := 2) (by omega)) yw_X0_blocksOf lk_X7_108 rfl (congrArg Prod.fst (tt_1 hT)) hc_0 rfl dX7_usedShare_15 rfl (Nat.le_of_ble_eq_true rfl) (by decide) ⟨Nat.le_refl _, Nat.le_refl _⟩ ?_
  refine M_iadd (pc := 18) C dX7_usedShare_18 ?_
  refine M_imul (pc := 19) C dX7_usedShare_19 ?_
  refine M_istore_n (pc := 20) C dX7_usedShare_20 (by decide) ?_
  refine M_iload_n (pc := 21) C dX7_usedShare_21 rfl ?_
  refine M_if_ne (pc := 22) C (tgt := 29) (by omega) dX7_usedShare_22 (by decide) (fun h_22 => ?_) (fun h_22 => ?_)
  · have he : usF r = FP.ddiv (FP.i2d (Int32.ofInt (gcF r))) (FP.i2d (Int32.ofInt (16 * (cntK r 1 + cntK r 2)))) := if_neg (fun q => h_22 (by omega))
    refine M_aload_n (pc := 29) C dX7_usedShare_29 rfl (by decide) ?_
    refine M_iconst (pc := 30) C dX7_usedShare_30 ?_
    refine A_cV (pc := 31) C (x := vI (ctX r s 5)) (a := 0) (c := 7) (c_X7_count (v := v) (w := 5) (s := s) hT hV (by omega) hs) yw_X7_count lk_X7_216 rfl (congrArg Prod.fst (tt_0 hT)) hc_7 rfl dX7_usedShare_31 rfl (Nat.le_of_ble_eq_true rfl) (by decide) ⟨Nat.le_refl _, Nat.le_refl _⟩ ?_
    refine M.to (st2 := [vI (gcF r)]) ?_ rfl rfl rfl
    refine M_i2d (pc := 34) C dX7_usedShare_34 ?_
    refine M_iload_n (pc := 35) C dX7_usedShare_35 rfl ?_
    refine M_i2d (pc := 36) C dX7_usedShare_36 ?_
    refine M_ddiv (pc := 37) C (z := FP.ddiv (FP.i2d (Int32.ofInt (gcF r))) (FP.i2d (Int32.ofInt (16 * ((cntK r 1) + (cntK r 2)))))) rfl (by rw [← he]; exact okD_1 hu) dX7_usedShare_37 ?_
    exact M_dret (pc := 38) C rfl dX7_usedShare_38 (by rw [he]) rfl
  · have he : usF r = FP.dconst1 := if_pos (by omega)
    refine M_dconst1 (pc := 25) C dX7_usedShare_25 ?_
    refine M_goto (pc := 26) C (tgt := 38) dX7_usedShare_26 (by decide) ?_
    exact M_dret (pc := 38) C rfl dX7_usedShare_38 (by rw [he]) rfl
theorem c_X7_mixFile {N : Nat} {T : Ty} {r : Nat → Int} {c : Int} {h : Int} {f : Nat} {v : Ct} (hT : TT T) (hV : DV v 1 r c) (hf : f < 10) (hfi : ro r f 0 = 1) : Runs mX7_mixFile 4 0 0 [vR 0, vJ h, vI ((f : Nat) : Int)] N T v (some (vJ (hf2 r f h))) N T v := by
  have hH : DR (v 2) (v 3) (v 4) (v 5) (v 6) (v 7) (v 8) (v 9) r := hV.1
  have hsz := hH.sz hf hfi
  have hrg := (hH.DI f hf).1
  refine Runs.of (by decide) (Nat.le_of_ble_eq_true rfl) fun κ C => ?_
  refine M_lload_n (pc := 0) C dX7_mixFile_0 rfl ?_
  refine M_iload_n (pc := 1) C dX7_mixFile_1 rfl ?_
  refine M_i2l (pc := 2) C (by omega) dX7_mixFile_2 ?_
  refine A_cS (pc := 3) C (x := vJ (31 * h + ((f : Nat) : Int))) (c_X7_mix hT (v := v) (h := h) (x := ((f : Nat) : Int))) yw_X7_mix lk_X7_221 rfl dX7_mixFile_3 rfl (Nat.le_of_ble_eq_true rfl) (by decide) ⟨Nat.le_refl _, Nat.le_refl _⟩ ?_
  refine M_lstore (pc := 6) C dX7_mixFile_6 (by decide) ?_
  refine M_iconst (pc := 8) C dX7_mixFile_8 ?_
  refine M_istore (pc := 9) C dX7_mixFile_9 (by decide) ?_
  refine loop_le (P := fun k => M κ N T 11 [some (vR 0), some (vJ h), none, some (vI ((f : Nat) : Int)), some (vJ (hsN (31 * h + ((f : Nat) : Int)) (prF r f) k)), none, some (vI ((k : Nat) : Int))] [] v 0 0 (QR κ (some (vJ (hf2 r f h))) N T v 0 0)) 7 (fun k hi ih => ?_)
  refine M_iload (pc := 11) C dX7_mixFile_11 rfl ?_
  refine M_bipush (pc := 13) C (by decide) dX7_mixFile_13 ?_
  refine M_icmp_gt (pc := 15) C (tgt := 42) (by omega) (by omega) dX7_mixFile_15 (by decide) (fun h_15 => ?_) (fun h_15 => ?_)
  · have hk7 : k = 7 := by omega
    subst hk7
    refine M_aload_n (pc := 42) C dX7_mixFile_42 rfl (by decide) ?_
    refine A_getR (pc := 43) C fl_X7_12 rfl (a := 0) (j := 1) rfl (tt_0 hT) rfl dX7_mixFile_43 ?_
    refine M_iload_n (pc := 46) C dX7_mixFile_46 rfl ?_
    refine A_cV (pc := 47) C (x := vI (ro r f 1)) (a := 1) (c := 0) (c_X0_sizeOfR hT hV (f := f) (by omega) hfi) yw_X0_sizeOf lk_X7_172 rfl (congrArg Prod.fst (tt_1 hT)) hc_0 rfl dX7_mixFile_47 rfl (Nat.le_of_ble_eq_true rfl) (by decide) ⟨Nat.le_refl _, Nat.le_refl _⟩ ?_
    refine M_istore (pc := 50) C dX7_mixFile_50 (by decide) ?_
    refine M_iload (pc := 52) C dX7_mixFile_52 rfl ?_
    refine M_if_le (pc := 54) C (tgt := 94) (by omega) dX7_mixFile_54 (by decide) (fun h_54 => ?_) (fun h_54 => ?_)
    · have he : hf1 r f (31 * h + ((f : Nat) : Int)) = hsN (31 * h + ((f : Nat) : Int)) (prF r f) 7 := if_neg (by omega)
      refine M_lload (pc := 94) C dX7_mixFile_94 rfl ?_
      refine M_aload_n (pc := 96) C dX7_mixFile_96 rfl (by decide) ?_
      refine A_getR (pc := 97) C fl_X7_12 rfl (a := 0) (j := 1) rfl (tt_0 hT) rfl dX7_mixFile_97 ?_
      refine M_iload_n (pc := 100) C dX7_mixFile_100 rfl ?_
      refine M_iconst (pc := 101) C dX7_mixFile_101 ?_
      refine A_cV (pc := 102) C (x := vI (opV (gwO r f 1))) (a := 1) (c := 0) (c_X0_growthOfR hT hV (f := f) (n := 1) (by omega) hfi (by omega)) yw_X0_growthOf lk_X7_201 rfl (congrArg Prod.fst (tt_1 hT)) hc_0 rfl dX7_mixFile_102 rfl (Nat.le_of_ble_eq_true rfl) (by decide) ⟨Nat.le_refl _, Nat.le_refl _⟩ ?_
      refine M_wr (pc := 105) ?_
      refine M_i2l (pc := 105) C (wr_i32 _) dX7_mixFile_105 ?_
      refine A_cS (pc := 106) C (x := vJ (31 * (hsN (31 * h + ((f : Nat) : Int)) (prF r f) 7) + (wr (opV (gwO r f 1))))) (c_X7_mix hT (v := v) (h := hsN (31 * h + ((f : Nat) : Int)) (prF r f) 7) (x := wr (opV (gwO r f 1)))) yw_X7_mix lk_X7_221 rfl dX7_mixFile_106 rfl (Nat.le_of_ble_eq_true rfl) (by decide) ⟨Nat.le_refl _, Nat.le_refl _⟩ ?_
      refine M_lstore (pc := 109) C dX7_mixFile_109 (by decide) ?_
      refine M_lload (pc := 111) C dX7_mixFile_111 rfl ?_
      refine M_aload_n (pc := 113) C dX7_mixFile_113 rfl (by decide) ?_
      refine A_getR (pc := 114) C fl_X7_12 rfl (a := 0) (j := 1) rfl (tt_0 hT) rfl dX7_mixFile_114 ?_
      refine M_iload_n (pc := 117) C dX7_mixFile_117 rfl ?_
      refine M_bipush (pc := 118) C (by decide) dX7_mixFile_118 ?_
      refine A_cV (pc := 120) C (x := vI (opV (gwO r f 16))) (a := 1) (c := 0) (c_X0_growthOfR hT hV (f := f) (n := 16) (by omega) hfi (by omega)) yw_X0_growthOf lk_X7_201 rfl (congrArg Prod.fst (tt_1 hT)) hc_0 rfl dX7_mixFile_120 rfl (Nat.le_of_ble_eq_true rfl) (by decide) ⟨Nat.le_refl _, Nat.le_refl _⟩ ?_
      refine M_wr (pc := 123) ?_
      refine M_i2l (pc := 123) C (wr_i32 _) dX7_mixFile_123 ?_
      refine A_cS (pc := 124) C (x := vJ (31 * (31 * (hsN (31 * h + ((f : Nat) : Int)) (prF r f) 7) + (wr (opV (gwO r f 1)))) + (wr (opV (gwO r f 16))))) (c_X7_mix hT (v := v) (h := 31 * (hsN (31 * h + ((f : Nat) : Int)) (prF r f) 7) + (wr (opV (gwO r f 1)))) (x := wr (opV (gwO r f 16)))) yw_X7_mix lk_X7_221 rfl dX7_mixFile_124 rfl (Nat.le_of_ble_eq_true rfl) (by decide) ⟨Nat.le_refl _, Nat.le_refl _⟩ ?_
      exact M_lret (pc := 127) C rfl dX7_mixFile_127 (by unfold hf2; rw [he]) rfl
    · have he : hf1 r f (31 * h + ((f : Nat) : Int)) = 31 * (31 * hsN (31 * h + ((f : Nat) : Int)) (prF r f) 7 + wr (plO r f 0)) + wr (plO r f (ro r f 1 - 1).toNat) := if_pos h_54
      refine M_lload (pc := 57) C dX7_mixFile_57 rfl ?_
      refine M_aload_n (pc := 59) C dX7_mixFile_59 rfl (by decide) ?_
      refine A_getR (pc := 60) C fl_X7_12 rfl (a := 0) (j := 1) rfl (tt_0 hT) rfl dX7_mixFile_60 ?_
      refine M_iload_n (pc := 63) C dX7_mixFile_63 rfl ?_
      refine M_iconst (pc := 64) C dX7_mixFile_64 ?_
      refine A_cV (pc := 65) C (x := vI (plO r f 0)) (a := 1) (c := 0) (c_X0_whereIsR hT hV (f := f) (q := 0) (by omega) hfi (show ((0 : Nat) : Int) < ro r f 1 by omega)) yw_X0_whereIs lk_X7_180 rfl (congrArg Prod.fst (tt_1 hT)) hc_0 rfl dX7_mixFile_65 rfl (Nat.le_of_ble_eq_true rfl) (by decide) ⟨Nat.le_refl _, Nat.le_refl _⟩ ?_
      refine M_wr (pc := 68) ?_
      refine M_i2l (pc := 68) C (wr_i32 _) dX7_mixFile_68 ?_
      refine A_cS (pc := 69) C (x := vJ (31 * (hsN (31 * h + ((f : Nat) : Int)) (prF r f) 7) + (wr (plO r f 0)))) (c_X7_mix hT (v := v) (h := hsN (31 * h + ((f : Nat) : Int)) (prF r f) 7) (x := wr (plO r f 0))) yw_X7_mix lk_X7_221 rfl dX7_mixFile_69 rfl (Nat.le_of_ble_eq_true rfl) (by decide) ⟨Nat.le_refl _, Nat.le_refl _⟩ ?_
      refine M_lstore (pc := 72) C dX7_mixFile_72 (by decide) ?_
      refine M_lload (pc := 74) C dX7_mixFile_74 rfl ?_
      refine M_aload_n (pc := 76) C dX7_mixFile_76 rfl (by decide) ?_
      refine A_getR (pc := 77) C fl_X7_12 rfl (a := 0) (j := 1) rfl (tt_0 hT) rfl dX7_mixFile_77 ?_
      refine M_iload_n (pc := 80) C dX7_mixFile_80 rfl ?_
      refine M_iload (pc := 81) C dX7_mixFile_81 rfl ?_
      refine M_iconst (pc := 83) C dX7_mixFile_83 ?_
      refine M_isub (pc := 84) C dX7_mixFile_84 ?_
      refine M.to (st2 := [vI (((ro r f 1 - 1).toNat : Nat) : Int), vI ((f : Nat) : Int), vR 1, vJ (31 * hsN (31 * h + ((f : Nat) : Int)) (prF r f) 7 + wr (plO r f 0))]) ?_ rfl (by rw [Int.toNat_of_nonneg (by omega)]) rfl
      refine A_cV (pc := 85) C (x := vI (plO r f ((ro r f 1 - 1).toNat))) (a := 1) (c := 0) (c_X0_whereIsR hT hV (f := f) (q := (ro r f 1 - 1).toNat) (by omega) hfi (show (((ro r f 1 - 1).toNat : Nat) : Int) < ro r f 1 by omega)) yw_X0_whereIs lk_X7_180 rfl (congrArg Prod.fst (tt_1 hT)) hc_0 rfl dX7_mixFile_85 rfl (Nat.le_of_ble_eq_true rfl) (by decide) ⟨Nat.le_refl _, Nat.le_refl _⟩ ?_
      refine M_wr (pc := 88) ?_
      refine M_i2l (pc := 88) C (wr_i32 _) dX7_mixFile_88 ?_
      refine A_cS (pc := 89) C (x := vJ (31 * (31 * hsN (31 * h + ((f : Nat) : Int)) (prF r f) 7 + wr (plO r f 0)) + (wr (plO r f ((ro r f 1 - 1).toNat))))) (c_X7_mix hT (v := v) (h := 31 * hsN (31 * h + ((f : Nat) : Int)) (prF r f) 7 + wr (plO r f 0)) (x := wr (plO r f ((ro r f 1 - 1).toNat)))) yw_X7_mix lk_X7_221 rfl dX7_mixFile_89 rfl (Nat.le_of_ble_eq_true rfl) (by decide) ⟨Nat.le_refl _, Nat.le_refl _⟩ ?_
      refine M_lstore (pc := 92) C dX7_mixFile_92 (by decide) ?_
      refine M_lload (pc := 94) C dX7_mixFile_94 rfl ?_
      refine M_aload_n (pc := 96) C dX7_mixFile_96 rfl (by decide) ?_
      refine A_getR (pc := 97) C fl_X7_12 rfl (a := 0) (j := 1) rfl (tt_0 hT) rfl dX7_mixFile_97 ?_
      refine M_iload_n (pc := 100) C dX7_mixFile_100 rfl ?_
      refine M_iconst (pc := 101) C dX7_mixFile_101 ?_
      refine A_cV (pc := 102) C (x := vI (opV (gwO r f 1))) (a := 1) (c := 0) (c_X0_growthOfR hT hV (f := f) (n := 1) (by omega) hfi (by omega)) yw_X0_growthOf lk_X7_201 rfl (congrArg Prod.fst (tt_1 hT)) hc_0 rfl dX7_mixFile_102 rfl (Nat.le_of_ble_eq_true rfl) (by decide) ⟨Nat.le_refl _, Nat.le_refl _⟩ ?_
      refine M_wr (pc := 105) ?_
      refine M_i2l (pc := 105) C (wr_i32 _) dX7_mixFile_105 ?_
      refine A_cS (pc := 106) C (x := vJ (31 * (31 * (31 * hsN (31 * h + ((f : Nat) : Int)) (prF r f) 7 + wr (plO r f 0)) + (wr (plO r f ((ro r f 1 - 1).toNat)))) + (wr (opV (gwO r f 1))))) (c_X7_mix hT (v := v) (h := 31 * (31 * hsN (31 * h + ((f : Nat) : Int)) (prF r f) 7 + wr (plO r f 0)) + (wr (plO r f ((ro r f 1 - 1).toNat)))) (x := wr (opV (gwO r f 1)))) yw_X7_mix lk_X7_221 rfl dX7_mixFile_106 rfl (Nat.le_of_ble_eq_true rfl) (by decide) ⟨Nat.le_refl _, Nat.le_refl _⟩ ?_
      refine M_lstore (pc := 109) C dX7_mixFile_109 (by decide) ?_
      refine M_lload (pc := 111) C dX7_mixFile_111 rfl ?_
      refine M_aload_n (pc := 113) C dX7_mixFile_113 rfl (by decide) ?_
      refine A_getR (pc := 114) C fl_X7_12 rfl (a := 0) (j := 1) rfl (tt_0 hT) rfl dX7_mixFile_114 ?_
      refine M_iload_n (pc := 117) C dX7_mixFile_117 rfl ?_
      refine M_bipush (pc := 118) C (by decide) dX7_mixFile_118 ?_
      refine A_cV (pc := 120) C (x := vI (opV (gwO r f 16))) (a := 1) (c := 0) (c_X0_growthOfR hT hV (f := f) (n := 16) (by omega) hfi (by omega)) yw_X0_growthOf lk_X7_201 rfl (congrArg Prod.fst (tt_1 hT)) hc_0 rfl dX7_mixFile_120 rfl (Nat.le_of_ble_eq_true rfl) (by decide) ⟨Nat.le_refl _, Nat.le_refl _⟩ ?_
      refine M_wr (pc := 123) ?_
      refine M_i2l (pc := 123) C (wr_i32 _) dX7_mixFile_123 ?_
      refine A_cS (pc := 124) C (x := vJ (31 * (31 * (31 * (31 * hsN (31 * h + ((f : Nat) : Int)) (prF r f) 7 + wr (plO r f 0)) + (wr (plO r f ((ro r f 1 - 1).toNat)))) + (wr (opV (gwO r f 1)))) + (wr (opV (gwO r f 16))))) (c_X7_mix hT (v := v) (h := 31 * (31 * (31 * hsN (31 * h + ((f : Nat) : Int)) (prF r f) 7 + wr (plO r f 0)) + (wr (plO r f ((ro r f 1 - 1).toNat)))) + (wr (opV (gwO r f 1)))) (x := wr (opV (gwO r f 16)))) yw_X7_mix lk_X7_221 rfl dX7_mixFile_124 rfl (Nat.le_of_ble_eq_true rfl) (by decide) ⟨Nat.le_refl _, Nat.le_refl _⟩ ?_
      exact M_lret (pc := 127) C rfl dX7_mixFile_127 (by unfold hf2; rw [he]) rfl
  · refine M_lload (pc := 18) C dX7_mixFile_18 rfl ?_
    refine M_aload_n (pc := 20) C dX7_mixFile_20 rfl (by decide) ?_
    refine A_getR (pc := 21) C fl_X7_12 rfl (a := 0) (j := 1) rfl (tt_0 hT) rfl dX7_mixFile_21 ?_
    refine M_iload_n (pc := 24) C dX7_mixFile_24 rfl ?_
    refine M_iload (pc := 25) C dX7_mixFile_25 rfl ?_
    refine A_cV (pc := 27) C (x := vI (prF r f k)) (a := 1) (c := 0) (c_X0_filePropertyR hT hV (f := f) (w := k) (by omega) hfi (by omega)) yw_X0_fileProperty lk_X7_169 rfl (congrArg Prod.fst (tt_1 hT)) hc_0 rfl dX7_mixFile_27 rfl (Nat.le_of_ble_eq_true rfl) (by decide) ⟨Nat.le_refl _, Nat.le_refl _⟩ ?_
    refine M_wr (pc := 30) ?_
    refine M_i2l (pc := 30) C (wr_i32 _) dX7_mixFile_30 ?_
    refine A_cS (pc := 31) C (x := vJ (31 * (hsN (31 * h + ((f : Nat) : Int)) (prF r f) k) + (wr (prF r f k)))) (c_X7_mix hT (v := v) (h := hsN (31 * h + ((f : Nat) : Int)) (prF r f) k) (x := wr (prF r f k))) yw_X7_mix lk_X7_221 rfl dX7_mixFile_31 rfl (Nat.le_of_ble_eq_true rfl) (by decide) ⟨Nat.le_refl _, Nat.le_refl _⟩ ?_
    refine M_lstore (pc := 34) C dX7_mixFile_34 (by decide) ?_
    refine M_iinc (pc := 36) C dX7_mixFile_36 rfl (by decide) ?_
    refine M_goto (pc := 39) C (tgt := 11) dX7_mixFile_39 (by decide) ?_
    exact M.to (ih (by omega)) rfl rfl rfl
theorem c_X7_mixOutlook {N : Nat} {T : Ty} {r : Nat → Int} {c : Int} {h : Int} {s : Nat} {v : Ct} (hT : TT T) (hV : DV v 1 r c) (hs : v 10 1 = (s : Int)) : RunsP mX7_mixOutlook 13 0 0 [vR 0, vJ h] N T v N T (fun r1 v1 => r1 = some (vJ (31 * dg4 r (dg3 r h) + (usF r).toInt64.toInt)) ∧ ∀ a, (a < 71 ∨ 84 ≤ a) → v1 a = v a) := by
  have hH : DR (v 2) (v 3) (v 4) (v 5) (v 6) (v 7) (v 8) (v 9) r := hV.1
  refine RunsP.of (by decide) (Nat.le_of_ble_eq_true rfl) fun κ C => ?_
  refine M_lload_n (pc := 0) C dX7_mixOutlook_0 rfl ?_
  refine M_aload_n (pc := 1) C dX7_mixOutlook_1 rfl (by decide) ?_
  refine A_getR (pc := 2) C fl_X7_12 rfl (a := 0) (j := 1) rfl (tt_0 hT) rfl dX7_mixOutlook_2 ?_
  refine M_iconst (pc := 5) C dX7_mixOutlook_5 ?_
  refine A_cV (pc := 6) C (x := vI (plcF r 1)) (a := 1) (c := 0) (c_X0_placeForR (v := v) hT hV (x := 1) (by omega)) yw_X0_placeFor lk_X7_198 rfl (congrArg Prod.fst (tt_1 hT)) hc_0 rfl dX7_mixOutlook_6 rfl (Nat.le_of_ble_eq_true rfl) (by decide) ⟨Nat.le_refl _, Nat.le_refl _⟩ ?_
  refine M_wr (pc := 9) ?_
  refine M_i2l (pc := 9) C (wr_i32 _) dX7_mixOutlook_9 ?_
  refine A_cS (pc := 10) C (x := vJ (31 * h + (wr (plcF r 1)))) (c_X7_mix hT (v := v) (h := h) (x := wr (plcF r 1))) yw_X7_mix lk_X7_221 rfl dX7_mixOutlook_10 rfl (Nat.le_of_ble_eq_true rfl) (by decide) ⟨Nat.le_refl _, Nat.le_refl _⟩ ?_
  refine M_lstore_n (pc := 13) C dX7_mixOutlook_13 (by decide) ?_
  obtain ⟨h1, e1⟩ : ∃ x : Int, x = 31 * h + wr (plcF r 1) := ⟨_, rfl⟩
  refine M.to (L2 := [some (vR 0), some (vJ h), none, some (vJ h1), none]) ?_ (by rw [e1]; rfl) rfl rfl
  refine M_lload_n (pc := 14) C dX7_mixOutlook_14 rfl ?_
  refine M_aload_n (pc := 15) C dX7_mixOutlook_15 rfl (by decide) ?_
  refine A_getR (pc := 16) C fl_X7_12 rfl (a := 0) (j := 1) rfl (tt_0 hT) rfl dX7_mixOutlook_16 ?_
  refine M_iconst (pc := 19) C dX7_mixOutlook_19 ?_
  refine A_cV (pc := 20) C (x := vI (plcF r 5)) (a := 1) (c := 0) (c_X0_placeForR (v := v) hT hV (x := 5) (by omega)) yw_X0_placeFor lk_X7_198 rfl (congrArg Prod.fst (tt_1 hT)) hc_0 rfl dX7_mixOutlook_20 rfl (Nat.le_of_ble_eq_true rfl) (by decide) ⟨Nat.le_refl _, Nat.le_refl _⟩ ?_
  refine M_wr (pc := 23) ?_
  refine M_i2l (pc := 23) C (wr_i32 _) dX7_mixOutlook_23 ?_
  refine A_cS (pc := 24) C (x := vJ (31 * h1 + (wr (plcF r 5)))) (c_X7_mix hT (v := v) (h := h1) (x := wr (plcF r 5))) yw_X7_mix lk_X7_221 rfl dX7_mixOutlook_24 rfl (Nat.le_of_ble_eq_true rfl) (by decide) ⟨Nat.le_refl _, Nat.le_refl _⟩ ?_
  refine M_lstore_n (pc := 27) C dX7_mixOutlook_27 (by decide) ?_
  obtain ⟨h2, e2⟩ : ∃ x : Int, x = 31 * h1 + wr (plcF r 5) := ⟨_, rfl⟩
  refine M.to (L2 := [some (vR 0), some (vJ h), none, some (vJ h2), none]) ?_ (by rw [e2]; rfl) rfl rfl
  refine M_lload_n (pc := 28) C dX7_mixOutlook_28 rfl ?_
  refine M_aload_n (pc := 29) C dX7_mixOutlook_29 rfl (by decide) ?_
  refine A_getR (pc := 30) C fl_X7_12 rfl (a := 0) (j := 1) rfl (tt_0 hT) rfl dX7_mixOutlook_30 ?_
  refine M_bipush (pc := 33) C (by decide) dX7_mixOutlook_33 ?_
  refine A_cV (pc := 35) C (x := vI (plcF r 15)) (a := 1) (c := 0) (c_X0_placeForR (v := v) hT hV (x := 15) (by omega)) yw_X0_placeFor lk_X7_198 rfl (congrArg Prod.fst (tt_1 hT)) hc_0 rfl dX7_mixOutlook_35 rfl (Nat.le_of_ble_eq_true rfl) (by decide) ⟨Nat.le_refl _, Nat.le_refl _⟩ ?_
  refine M_wr (pc := 38) ?_
  refine M_i2l (pc := 38) C (wr_i32 _) dX7_mixOutlook_38 ?_
  refine A_cS (pc := 39) C (x := vJ (31 * h2 + (wr (plcF r 15)))) (c_X7_mix hT (v := v) (h := h2) (x := wr (plcF r 15))) yw_X7_mix lk_X7_221 rfl dX7_mixOutlook_39 rfl (Nat.le_of_ble_eq_true rfl) (by decide) ⟨Nat.le_refl _, Nat.le_refl _⟩ ?_
  refine M_lstore_n (pc := 42) C dX7_mixOutlook_42 (by decide) ?_
  obtain ⟨h3, e3⟩ : ∃ x : Int, x = 31 * h2 + wr (plcF r 15) := ⟨_, rfl⟩
  refine M.to (L2 := [some (vR 0), some (vJ h), none, some (vJ h3), none]) ?_ (by rw [e3]; rfl) rfl rfl
  refine M_lload_n (pc := 43) C dX7_mixOutlook_43 rfl ?_
  refine M_aload_n (pc := 44) C dX7_mixOutlook_44 rfl (by decide) ?_
  refine A_cV (pc := 45) C (x := vI (grF r)) (a := 0) (c := 7) (c_X7_greatestR (v := v) hT hV) yw_X7_greatest lk_X7_239 rfl (congrArg Prod.fst (tt_0 hT)) hc_7 rfl dX7_mixOutlook_45 rfl (Nat.le_of_ble_eq_true rfl) (by decide) ⟨Nat.le_refl _, Nat.le_refl _⟩ ?_
  refine M_wr (pc := 48) ?_
  refine M_i2l (pc := 48) C (wr_i32 _) dX7_mixOutlook_48 ?_
  refine A_cS (pc := 49) C (x := vJ (31 * h3 + (wr (grF r)))) (c_X7_mix hT (v := v) (h := h3) (x := wr (grF r))) yw_X7_mix lk_X7_221 rfl dX7_mixOutlook_49 rfl (Nat.le_of_ble_eq_true rfl) (by decide) ⟨Nat.le_refl _, Nat.le_refl _⟩ ?_
  refine M_lstore_n (pc := 52) C dX7_mixOutlook_52 (by decide) ?_
  obtain ⟨h4, e4⟩ : ∃ x : Int, x = 31 * h3 + wr (grF r) := ⟨_, rfl⟩
  refine M.to (L2 := [some (vR 0), some (vJ h), none, some (vJ h4), none]) ?_ (by rw [e4]; rfl) rfl rfl
  refine M_lload_n (pc := 53) C dX7_mixOutlook_53 rfl ?_
  refine M_aload_n (pc := 54) C dX7_mixOutlook_54 rfl (by decide) ?_
  refine M_iconst (pc := 55) C dX7_mixOutlook_55 ?_
  refine A_pV (pc := 56) C (a := 0) (c := 7) (c_X7_fewest (v := v) (w := 0) hT hV (by omega)) yw_X7_fewest lk_X7_242 rfl (congrArg Prod.fst (tt_0 hT)) hc_7 rfl dX7_mixOutlook_56 rfl (Nat.le_of_ble_eq_true rfl) (by decide) ⟨Nat.le_refl _, Nat.le_refl _⟩ (fun r_56 v_56 p_56 => ?_)
  obtain ⟨rfl, hf_56⟩ := p_56
  refine M.to (pc := 59) (st2 := [vI (fbG r), vJ h4]) (v2 := v_56) ?_ rfl rfl rfl
  have hV_56 : DV v_56 1 r c := hV.same (fun k hk => hf_56 _ (by omega)) (fun _ _ => rfl)
  refine M_wr (pc := 59) ?_
  refine M_i2l (pc := 59) C (wr_i32 _) dX7_mixOutlook_59 ?_
  refine A_cS (pc := 60) C (x := vJ (31 * h4 + (wr (fbG r)))) (c_X7_mix hT (v := v_56) (h := h4) (x := wr (fbG r))) yw_X7_mix lk_X7_221 rfl dX7_mixOutlook_60 rfl (Nat.le_of_ble_eq_true rfl) (by decide) ⟨Nat.le_refl _, Nat.le_refl _⟩ ?_
  refine M_lstore_n (pc := 63) C dX7_mixOutlook_63 (by decide) ?_
  obtain ⟨h5, e5⟩ : ∃ x : Int, x = 31 * h4 + wr (fbG r) := ⟨_, rfl⟩
  refine M.to (L2 := [some (vR 0), some (vJ h), none, some (vJ h5), none]) ?_ (by rw [e5]; rfl) rfl rfl
  refine M_lload_n (pc := 64) C dX7_mixOutlook_64 rfl ?_
  refine M_aload_n (pc := 65) C dX7_mixOutlook_65 rfl (by decide) ?_
  refine M_iconst (pc := 66) C dX7_mixOutlook_66 ?_
  refine A_pV (pc := 67) C (a := 0) (c := 7) (c_X7_fewest (v := v_56) (w := 1) hT hV_56 (by omega)) yw_X7_fewest lk_X7_242 rfl (congrArg Prod.fst (tt_0 hT)) hc_7 rfl dX7_mixOutlook_67 rfl (Nat.le_of_ble_eq_true rfl) (by decide) ⟨Nat.le_refl _, Nat.le_refl _⟩ (fun r_67 v_67 p_67 => ?_)
  obtain ⟨rfl, hf_67⟩ := p_67
  refine M.to (pc := 70) (st2 := [vI (fbG r), vJ h5]) (v2 := v_67) ?_ rfl rfl rfl
  have hV_67 : DV v_67 1 r c := hV_56.same (fun k hk => hf_67 _ (by omega)) (fun _ _ => rfl)
  refine M_wr (pc := 70) ?_
  refine M_i2l (pc := 70) C (wr_i32 _) dX7_mixOutlook_70 ?_
  refine A_cS (pc := 71) C (x := vJ (31 * h5 + (wr (fbG r)))) (c_X7_mix hT (v := v_67) (h := h5) (x := wr (fbG r))) yw_X7_mix lk_X7_221 rfl dX7_mixOutlook_71 rfl (Nat.le_of_ble_eq_true rfl) (by decide) ⟨Nat.le_refl _, Nat.le_refl _⟩ ?_
  refine M_lstore_n (pc := 74) C dX7_mixOutlook_74 (by decide) ?_
  obtain ⟨h6, e6⟩ : ∃ x : Int, x = 31 * h5 + wr (fbG r) := ⟨_, rfl⟩
  refine M.to (L2 := [some (vR 0), some (vJ h), none, some (vJ h6), none]) ?_ (by rw [e6]; rfl) rfl rfl
  refine M_lload_n (pc := 75) C dX7_mixOutlook_75 rfl ?_
  refine M_aload_n (pc := 76) C dX7_mixOutlook_76 rfl (by decide) ?_
  refine A_pV (pc := 77) C (a := 0) (c := 7) (c_X7_ifPacked (v := v_67) hT hV_67) yw_X7_ifPacked lk_X7_245 rfl (congrArg Prod.fst (tt_0 hT)) hc_7 rfl dX7_mixOutlook_77 rfl (Nat.le_of_ble_eq_true rfl) (by decide) ⟨Nat.le_refl _, Nat.le_refl _⟩ (fun r_77 v_77 p_77 => ?_)
  obtain ⟨rfl, hf_77⟩ := p_77
  refine M.to (pc := 80) (st2 := [vI (pkV r), vJ h6]) (v2 := v_77) ?_ rfl rfl rfl
  have hV_77 : DV v_77 1 r c := hV_67.same (fun k hk => hf_77 _ (by omega)) (fun _ _ => rfl)
  refine M_wr (pc := 80) ?_
  refine M_i2l (pc := 80) C (wr_i32 _) dX7_mixOutlook_80 ?_
  refine A_cS (pc := 81) C (x := vJ (31 * h6 + (wr (pkV r)))) (c_X7_mix hT (v := v_77) (h := h6) (x := wr (pkV r))) yw_X7_mix lk_X7_221 rfl dX7_mixOutlook_81 rfl (Nat.le_of_ble_eq_true rfl) (by decide) ⟨Nat.le_refl _, Nat.le_refl _⟩ ?_
  refine M_lstore_n (pc := 84) C dX7_mixOutlook_84 (by decide) ?_
  obtain ⟨h7, e7⟩ : ∃ x : Int, x = 31 * h6 + wr (pkV r) := ⟨_, rfl⟩
  refine M.to (L2 := [some (vR 0), some (vJ h), none, some (vJ h7), none]) ?_ (by rw [e7]; rfl) rfl rfl
  refine M_lload_n (pc := 85) C dX7_mixOutlook_85 rfl ?_
  refine M_aload_n (pc := 86) C dX7_mixOutlook_86 rfl (by decide) ?_
  refine A_cV (pc := 87) C (x := vI ((wkN (wkB r) 24).1)) (a := 0) (c := 7) (c_X7_weakestR (v := v_77) hT hV_77) yw_X7_weakest lk_X7_248 rfl (congrArg Prod.fst (tt_0 hT)) hc_7 rfl dX7_mixOutlook_87 rfl (Nat.le_of_ble_eq_true rfl) (by decide) ⟨Nat.le_refl _, Nat.le_refl _⟩ ?_
  refine M_wr (pc := 90) ?_
  refine M_i2l (pc := 90) C (wr_i32 _) dX7_mixOutlook_90 ?_
  refine A_cS (pc := 91) C (x := vJ (31 * h7 + (wr ((wkN (wkB r) 24).1)))) (c_X7_mix hT (v := v_77) (h := h7) (x := wr ((wkN (wkB r) 24).1))) yw_X7_mix lk_X7_221 rfl dX7_mixOutlook_91 rfl (Nat.le_of_ble_eq_true rfl) (by decide) ⟨Nat.le_refl _, Nat.le_refl _⟩ ?_
  refine M_lstore_n (pc := 94) C dX7_mixOutlook_94 (by decide) ?_
  obtain ⟨h8, e8⟩ : ∃ x : Int, x = 31 * h7 + wr (wkN (wkB r) 24).1 := ⟨_, rfl⟩
  refine M.to (L2 := [some (vR 0), some (vJ h), none, some (vJ h8), none]) ?_ (by rw [e8]; rfl) rfl rfl
  refine M_lload_n (pc := 95) C dX7_mixOutlook_95 rfl ?_
  refine M_aload_n (pc := 96) C dX7_mixOutlook_96 rfl (by decide) ?_
  refine A_cV (pc := 97) C (x := vD (usF r)) (a := 0) (c := 7) (c_X7_usedShare (v := v_77) (s := s) hT hV_77 (by rw [hf_77 10 (by omega), hf_67 10 (by omega), hf_56 10 (by omega)]; exact hs)) yw_X7_usedShare lk_X7_251 rfl (congrArg Prod.fst (tt_0 hT)) hc_7 rfl dX7_mixOutlook_97 rfl (Nat.le_of_ble_eq_true rfl) (by decide) ⟨Nat.le_refl _, Nat.le_refl _⟩ ?_
  refine A_cS (pc := 100) C (x := vJ ((usF r).toInt64.toInt)) (c_X7_bitsOf (v := v_77) (x := usF r) hT hH.us.2) yw_X7_bitsOf lk_X7_255 rfl dX7_mixOutlook_100 rfl (Nat.le_of_ble_eq_true rfl) (by decide) ⟨Nat.le_refl _, Nat.le_refl _⟩ ?_
  refine A_cS (pc := 103) C (x := vJ (31 * h8 + ((usF r).toInt64.toInt))) (c_X7_mix hT (v := v_77) (h := h8) (x := (usF r).toInt64.toInt)) yw_X7_mix lk_X7_221 rfl dX7_mixOutlook_103 rfl (Nat.le_of_ble_eq_true rfl) (by decide) ⟨Nat.le_refl _, Nat.le_refl _⟩ ?_
  have e10 : h8 = dg4 r (dg3 r h) := by rw [e8, e7, e6, e5, e4, e3, e2, e1]; rfl
  exact M_lretP (pc := 106) C rfl dX7_mixOutlook_106 ⟨by rw [e10], fun a ha => (hf_77 a (by omega)).trans ((hf_67 a (by omega)).trans (hf_56 a (by omega)))⟩
theorem c_X7_mixText {N : Nat} {T : Ty} {hs : Nat → Int} {h : Int} {n : Nat} {v : Ct} (hT : TT T) (hsl : ∀ q, q < 2 → (v 66 q = -1 ∧ hs q = 0) ∨ (0 ≤ v 66 q ∧ hs q ≠ 0)) (hx : v 67 1 = (n : Int)) (hn : n ≤ 60) : Runs mX7_mixText 1 0 0 [vR 0, vJ h] N T v (some (vJ (hhN (31 * hhN h (fun k => Bi (decide (hs k ≠ 0))) 2 + ((n : Nat) : Int)) (v 68) n))) N T v := by
  refine Runs.of (by decide) (Nat.le_of_ble_eq_true rfl) fun κ C => ?_
  refine M_lload_n (pc := 0) C dX7_mixText_0 rfl ?_
  refine M_lstore_n (pc := 1) C dX7_mixText_1 (by decide) ?_
  refine M_iconst (pc := 2) C dX7_mixText_2 ?_
  refine M_istore (pc := 3) C dX7_mixText_3 (by decide) ?_
  refine loop_le (P := fun i => M κ N T 5 [some (vR 0), some (vJ h), none, some (vJ (hhN h (fun k => Bi (decide (hs k ≠ 0))) i)), none, some (vI ((i : Nat) : Int))] [] v 0 0 (QR κ (some (vJ (hhN (31 * hhN h (fun k => Bi (decide (hs k ≠ 0))) 2 + ((n : Nat) : Int)) (v 68) n))) N T v 0 0)) 2 (fun i hi ih => ?_)
  refine M_iload (pc := 5) C dX7_mixText_5 rfl ?_
  refine M_iconst (pc := 7) C dX7_mixText_7 ?_
  refine M_icmp_ge (pc := 8) C (tgt := 37) (by omega) (by omega) dX7_mixText_8 (by decide) (fun h_8 => ?_) (fun h_8 => ?_)
  · have hi22 : i = 2 := by omega
    subst hi22
    refine M_lload_n (pc := 37) C dX7_mixText_37 rfl ?_
    refine M_aload_n (pc := 38) C dX7_mixText_38 rfl (by decide) ?_
    refine A_getR (pc := 39) C fl_X7_30 rfl (a := 0) (j := 67) rfl (tt_0 hT) rfl dX7_mixText_39 ?_
    refine A_cV (pc := 42) C (x := vI (v 67 1)) (a := 67) (c := 6) (c_X6_length hT (v := v)) yw_X6_length lk_X7_131 rfl (congrArg Prod.fst (tt_67 hT)) hc_6 rfl dX7_mixText_42 rfl (Nat.le_of_ble_eq_true rfl) (by decide) ⟨Nat.le_refl _, Nat.le_refl _⟩ ?_
    refine M.to (st2 := [vI ((n : Nat) : Int), vJ (hhN h (fun k => Bi (decide (hs k ≠ 0))) 2)]) ?_ rfl (by rw [hx]) rfl
    refine M_i2l (pc := 45) C (by omega) dX7_mixText_45 ?_
    refine A_cS (pc := 46) C (x := vJ (31 * (hhN h (fun k => Bi (decide (hs k ≠ 0))) 2) + ((n : Nat) : Int))) (c_X7_mix hT (v := v) (h := hhN h (fun k => Bi (decide (hs k ≠ 0))) 2) (x := ((n : Nat) : Int))) yw_X7_mix lk_X7_221 rfl dX7_mixText_46 rfl (Nat.le_of_ble_eq_true rfl) (by decide) ⟨Nat.le_refl _, Nat.le_refl _⟩ ?_
    refine M_lstore_n (pc := 49) C dX7_mixText_49 (by decide) ?_
    refine M_iconst (pc := 50) C dX7_mixText_50 ?_
    refine M_istore (pc := 51) C dX7_mixText_51 (by decide) ?_
    refine loop_le (P := fun i2 => M κ N T 53 [some (vR 0), some (vJ h), none, some (vJ (hhN (31 * hhN h (fun k => Bi (decide (hs k ≠ 0))) 2 + ((n : Nat) : Int)) (v 68) i2)), none, some (vI ((i2 : Nat) : Int))] [] v 0 0 (QR κ (some (vJ (hhN (31 * hhN h (fun k => Bi (decide (hs k ≠ 0))) 2 + ((n : Nat) : Int)) (v 68) n))) N T v 0 0)) n (fun i2 hi2 ih2 => ?_)
    refine M_iload (pc := 53) C dX7_mixText_53 rfl ?_
    refine M_aload_n (pc := 55) C dX7_mixText_55 rfl (by decide) ?_
    refine A_getR (pc := 56) C fl_X7_30 rfl (a := 0) (j := 67) rfl (tt_0 hT) rfl dX7_mixText_56 ?_
    refine A_cV (pc := 59) C (x := vI (v 67 1)) (a := 67) (c := 6) (c_X6_length hT (v := v)) yw_X6_length lk_X7_131 rfl (congrArg Prod.fst (tt_67 hT)) hc_6 rfl dX7_mixText_59 rfl (Nat.le_of_ble_eq_true rfl) (by decide) ⟨Nat.le_refl _, Nat.le_refl _⟩ ?_
    refine M.to (st2 := [vI ((n : Nat) : Int), vI ((i2 : Nat) : Int)]) ?_ rfl (by rw [hx]) rfl
    refine M_icmp_ge (pc := 62) C (tgt := 86) (by omega) (by omega) dX7_mixText_62 (by decide) (fun h_62 => ?_) (fun h_62 => ?_)
    · have hin4 : i2 = n := by omega
      subst hin4
      refine M_lload_n (pc := 86) C dX7_mixText_86 rfl ?_
      exact M_lret (pc := 87) C rfl dX7_mixText_87 rfl rfl
    · refine M_lload_n (pc := 65) C dX7_mixText_65 rfl ?_
      refine M_aload_n (pc := 66) C dX7_mixText_66 rfl (by decide) ?_
      refine A_getR (pc := 67) C fl_X7_30 rfl (a := 0) (j := 67) rfl (tt_0 hT) rfl dX7_mixText_67 ?_
      refine M_iload (pc := 70) C dX7_mixText_70 rfl ?_
      refine A_cV (pc := 72) C (x := vI (if 0 ≤ ((i2 : Nat) : Int) ∧ ((i2 : Nat) : Int) < ((n : Nat) : Int) then v 68 ((i2 : Nat) : Int).toNat else -1)) (a := 67) (c := 6) (c_X6_codeAt hT (v := v) (a := ((i2 : Nat) : Int)) (n := n) hx hn (by omega)) yw_X6_codeAt lk_X7_259 rfl (congrArg Prod.fst (tt_67 hT)) hc_6 rfl dX7_mixText_72 rfl (Nat.le_of_ble_eq_true rfl) (by decide) ⟨Nat.le_refl _, Nat.le_refl _⟩ ?_
      refine M_rd (pc := 75) C 68 i2 (fun (r_cd : i32 (v 68 i2)) => ?_)
      refine M.to (st2 := [vI (v 68 i2), vJ (hhN (31 * hhN h (fun k => Bi (decide (hs k ≠ 0))) 2 + ((n : Nat) : Int)) (v 68) i2)]) ?_ rfl (by rw [if_pos ⟨by omega, by omega⟩] <;> rfl) rfl
      refine M_i2l (pc := 75) C (by omega) dX7_mixText_75 ?_
      refine A_cS (pc := 76) C (x := vJ (31 * (hhN (31 * hhN h (fun k => Bi (decide (hs k ≠ 0))) 2 + ((n : Nat) : Int)) (v 68) i2) + (v 68 i2))) (c_X7_mix hT (v := v) (h := hhN (31 * hhN h (fun k => Bi (decide (hs k ≠ 0))) 2 + ((n : Nat) : Int)) (v 68) i2) (x := v 68 i2)) yw_X7_mix lk_X7_221 rfl dX7_mixText_76 rfl (Nat.le_of_ble_eq_true rfl) (by decide) ⟨Nat.le_refl _, Nat.le_refl _⟩ ?_
      refine M_lstore_n (pc := 79) C dX7_mixText_79 (by decide) ?_
      refine M_iinc (pc := 80) C dX7_mixText_80 rfl (by decide) ?_
      refine M_goto (pc := 83) C (tgt := 53) dX7_mixText_83 (by decide) ?_
      exact M.to (ih2 (by omega)) rfl rfl rfl
  · refine M_lload_n (pc := 11) C dX7_mixText_11 rfl ?_
    refine M_aload_n (pc := 12) C dX7_mixText_12 rfl (by decide) ?_
    refine A_getR (pc := 13) C fl_X7_23 rfl (a := 0) (j := 66) rfl (tt_0 hT) rfl dX7_mixText_13 ?_
    refine M_iload (pc := 16) C dX7_mixText_16 rfl ?_
    refine A_aald (pc := 18) C (a := 66) (q := i) rfl (tt_66 hT) (by decide) (by omega) (by omega) dX7_mixText_18 (fun (r_18 : i32 (v 66 i)) => ?_)
    have hsi := hsl i (by omega)
    refine M_ifnonnull (pc := 19) C (tgt := 26) (by omega) dX7_mixText_19 (by decide) (fun h_19 => ?_) (fun h_19 => ?_)
    · have hne : hs i ≠ 0 := (hsl i (by omega)).elim (fun q => absurd q.1 (by omega)) (fun q => q.2)
      refine M_lconst (pc := 26) C (x := 1) (by decide) dX7_mixText_26 ?_
      refine A_cS (pc := 27) C (x := vJ (31 * (hhN h (fun k => Bi (decide (hs k ≠ 0))) i) + 1)) (c_X7_mix hT (v := v) (h := hhN h (fun k => Bi (decide (hs k ≠ 0))) i) (x := 1)) yw_X7_mix lk_X7_221 rfl dX7_mixText_27 rfl (Nat.le_of_ble_eq_true rfl) (by decide) ⟨Nat.le_refl _, Nat.le_refl _⟩ ?_
      refine M_lstore_n (pc := 30) C dX7_mixText_30 (by decide) ?_
      refine M_iinc (pc := 31) C dX7_mixText_31 rfl (by decide) ?_
      refine M_goto (pc := 34) C (tgt := 5) dX7_mixText_34 (by decide) ?_
      exact M.to (ih (by omega)) (by first | (rw [show hhN h (fun k => Bi (decide (hs k ≠ 0))) (i + 1) = 31 * hhN h (fun k => Bi (decide (hs k ≠ 0))) i + Bi (decide (hs i ≠ 0)) from rfl, decide_eq_true hne]; rfl) | (rw [show hhN h (fun k => Bi (decide (hs k ≠ 0))) (i + 1) = 31 * hhN h (fun k => Bi (decide (hs k ≠ 0))) i + Bi (decide (hs i ≠ 0)) from rfl, decide_eq_false hne]; rfl)) rfl rfl
    · have hne : ¬ hs i ≠ 0 := (hsl i (by omega)).elim (fun q k => k q.2) (fun q => absurd q.1 (by omega))
      refine M_lconst (pc := 22) C (x := 0) (by decide) dX7_mixText_22 ?_
      refine M_goto (pc := 23) C (tgt := 27) dX7_mixText_23 (by decide) ?_
      refine A_cS (pc := 27) C (x := vJ (31 * (hhN h (fun k => Bi (decide (hs k ≠ 0))) i) + 0)) (c_X7_mix hT (v := v) (h := hhN h (fun k => Bi (decide (hs k ≠ 0))) i) (x := 0)) yw_X7_mix lk_X7_221 rfl dX7_mixText_27 rfl (Nat.le_of_ble_eq_true rfl) (by decide) ⟨Nat.le_refl _, Nat.le_refl _⟩ ?_
      refine M_lstore_n (pc := 30) C dX7_mixText_30 (by decide) ?_
      refine M_iinc (pc := 31) C dX7_mixText_31 rfl (by decide) ?_
      refine M_goto (pc := 34) C (tgt := 5) dX7_mixText_34 (by decide) ?_
      exact M.to (ih (by omega)) (by first | (rw [show hhN h (fun k => Bi (decide (hs k ≠ 0))) (i + 1) = 31 * hhN h (fun k => Bi (decide (hs k ≠ 0))) i + Bi (decide (hs i ≠ 0)) from rfl, decide_eq_true hne]; rfl) | (rw [show hhN h (fun k => Bi (decide (hs k ≠ 0))) (i + 1) = 31 * hhN h (fun k => Bi (decide (hs k ≠ 0))) i + Bi (decide (hs i ≠ 0)) from rfl, decide_eq_false hne]; rfl)) rfl rfl
theorem c_X7_digest {N : Nat} {T : Ty} {r : Nat → Int} {c : Int} {hz : Nat → Int} {n s : Nat} {v : Ct} (hT : TT T) (hV : DV v 1 r c) (hs : v 10 1 = (s : Int)) (hsl : ∀ q, q < 2 → (v 66 q = -1 ∧ hz q = 0) ∨ (0 ≤ v 66 q ∧ hz q ≠ 0)) (hx : v 67 1 = (n : Int)) (hn : n ≤ 60) : RunsP mX7_digest 14 0 0 [vR 0] N T v N T (fun r1 v1 => r1 = some (vJ (dgV (ctX r s) r hz (v 68) n)) ∧ ∀ a, (a < 71 ∨ 84 ≤ a) → v1 a = v a) := by
  have hH : DR (v 2) (v 3) (v 4) (v 5) (v 6) (v 7) (v 8) (v 9) r := hV.1
  refine RunsP.of (by decide) (Nat.le_of_ble_eq_true rfl) fun κ C => ?_
  refine M_ldc2 (pc := 0) C lc_X7_219 (z := 3499) rfl dX7_digest_0 ?_
  refine M_lstore_n (pc := 3) C dX7_digest_3 (by decide) ?_
  refine M_iconst (pc := 4) C dX7_digest_4 ?_
  refine M_istore_n (pc := 5) C dX7_digest_5 (by decide) ?_
  refine loop_le (P := fun i => M κ N T 6 [some (vR 0), some (vJ (hsN 3499 (ctX r s) i)), none, some (vI ((i : Nat) : Int)), none] [] v 0 0 (QP κ N T (fun r1 v1 => r1 = some (vJ (dgV (ctX r s) r hz (v 68) n)) ∧ ∀ a, (a < 71 ∨ 84 ≤ a) → v1 a = v a) 0 0)) 12 (fun i hi ih => ?_)
  refine M_iload_n (pc := 6) C dX7_digest_6 rfl ?_
  refine M_bipush (pc := 7) C (by decide) dX7_digest_7 ?_
  refine M_icmp_gt (pc := 9) C (tgt := 29) (by omega) (by omega) dX7_digest_9 (by decide) (fun h_9 => ?_) (fun h_9 => ?_)
  · have hi12 : i = 12 := by omega
    subst hi12
    refine M_iconst (pc := 29) C dX7_digest_29 ?_
    refine M_istore_n (pc := 30) C dX7_digest_30 (by decide) ?_
    refine loop_le (P := fun i1 => M κ N T 31 [some (vR 0), some (vJ (hfN r (hsN 3499 (ctX r s) 12) i1)), none, some (vI ((i1 : Nat) : Int)), none] [] v 0 0 (QP κ N T (fun r1 v1 => r1 = some (vJ (dgV (ctX r s) r hz (v 68) n)) ∧ ∀ a, (a < 71 ∨ 84 ≤ a) → v1 a = v a) 0 0)) 10 (fun i1 hi1 ih1 => ?_)
    refine M_iload_n (pc := 31) C dX7_digest_31 rfl ?_
    refine M_bipush (pc := 32) C (by decide) dX7_digest_32 ?_
    refine M_icmp_ge (pc := 34) C (tgt := 61) (by omega) (by omega) dX7_digest_34 (by decide) (fun h_34 => ?_) (fun h_34 => ?_)
    · have hi10 : i1 = 10 := by omega
      subst hi10
      refine M_iconst (pc := 61) C dX7_digest_61 ?_
      refine M_istore_n (pc := 62) C dX7_digest_62 (by decide) ?_
      refine loop_le (P := fun i2 => M κ N T 63 [some (vR 0), some (vJ (hbN r (hfN r (hsN 3499 (ctX r s) 12) 10) i2)), none, some (vI ((i2 : Nat) : Int)), none] [] v 0 0 (QP κ N T (fun r1 v1 => r1 = some (vJ (dgV (ctX r s) r hz (v 68) n)) ∧ ∀ a, (a < 71 ∨ 84 ≤ a) → v1 a = v a) 0 0)) 24 (fun i2 hi2 ih2 => ?_)
      refine M_iload_n (pc := 63) C dX7_digest_63 rfl ?_
      refine M_bipush (pc := 64) C (by decide) dX7_digest_64 ?_
      refine M_icmp_ge (pc := 66) C (tgt := 106) (by omega) (by omega) dX7_digest_66 (by decide) (fun h_66 => ?_) (fun h_66 => ?_)
      · have hi24 : i2 = 24 := by omega
        subst hi24
        obtain ⟨h0, e0⟩ : ∃ x : Int, x = hbN r (hfN r (hsN 3499 (ctX r s) 12) 10) 24 := ⟨_, rfl⟩
        refine M.to (L2 := [some (vR 0), some (vJ h0), none, some (vI ((24 : Nat) : Int)), none]) ?_ (by rw [e0]) rfl rfl
        refine M_aload_n (pc := 106) C dX7_digest_106 rfl (by decide) ?_
        refine M_aload_n (pc := 107) C dX7_digest_107 rfl (by decide) ?_
        refine M_lload_n (pc := 108) C dX7_digest_108 rfl ?_
        refine A_pV (pc := 109) C (a := 0) (c := 7) (c_X7_mixOutlook (v := v) (h := h0) (s := s) hT hV hs) yw_X7_mixOutlook lk_X7_232 rfl (congrArg Prod.fst (tt_0 hT)) hc_7 rfl dX7_digest_109 rfl (Nat.le_of_ble_eq_true rfl) (by decide) ⟨Nat.le_refl _, Nat.le_refl _⟩ (fun r_109 v_109 p_109 => ?_)
        obtain ⟨rfl, hf_109⟩ := p_109
        refine M.to (pc := 112) (st2 := [vJ (31 * dg4 r (dg3 r h0) + (usF r).toInt64.toInt), vR 0]) (v2 := v_109) ?_ rfl rfl rfl
        refine A_cV (pc := 112) C (x := vJ (hhN (31 * hhN (31 * dg4 r (dg3 r h0) + (usF r).toInt64.toInt) (fun k => Bi (decide (hz k ≠ 0))) 2 + ((n : Nat) : Int)) (v_109 68) n)) (a := 0) (c := 7) (c_X7_mixText (v := v_109) (h := 31 * dg4 r (dg3 r h0) + (usF r).toInt64.toInt) (hs := hz) (n := n) hT (by rw [hf_109 66 (by omega)]; exact hsl) (by rw [hf_109 67 (by omega)]; exact hx) hn) yw_X7_mixText lk_X7_236 rfl (congrArg Prod.fst (tt_0 hT)) hc_7 rfl dX7_digest_112 rfl (Nat.le_of_ble_eq_true rfl) (by decide) ⟨Nat.le_refl _, Nat.le_refl _⟩ ?_
        exact M_lretP (pc := 115) C rfl dX7_digest_115 ⟨by rw [hf_109 68 (by omega), e0]; rfl, hf_109⟩
      · refine M_iconst (pc := 69) C dX7_digest_69 ?_
        refine M_istore (pc := 70) C dX7_digest_70 (by decide) ?_
        refine loop_le (P := fun k => M κ N T 72 [some (vR 0), some (vJ (hsN (hbN r (hfN r (hsN 3499 (ctX r s) 12) 10) i2) (biF r i2) k)), none, some (vI ((i2 : Nat) : Int)), some (vI ((k : Nat) : Int))] [] v 0 0 (QP κ N T (fun r1 v1 => r1 = some (vJ (dgV (ctX r s) r hz (v 68) n)) ∧ ∀ a, (a < 71 ∨ 84 ≤ a) → v1 a = v a) 0 0)) 5 (fun k hk ihk => ?_)
        have hi24 : i2 < 24 := by omega
        refine M_iload (pc := 72) C dX7_digest_72 rfl ?_
        refine M_iconst (pc := 74) C dX7_digest_74 ?_
        refine M_icmp_gt (pc := 75) C (tgt := 100) (by omega) (by omega) dX7_digest_75 (by decide) (fun h_75 => ?_) (fun h_75 => ?_)
        · have hk5 : k = 5 := by omega
          subst hk5
          refine M_iinc (pc := 100) C dX7_digest_100 rfl (by decide) ?_
          refine M_goto (pc := 103) C (tgt := 63) dX7_digest_103 (by decide) ?_
          refine M.drop [true, true, true, true, false] rfl ?_
          exact M.to (ih2 (by omega)) rfl rfl rfl
        · refine M_lload_n (pc := 78) C dX7_digest_78 rfl ?_
          refine M_aload_n (pc := 79) C dX7_digest_79 rfl (by decide) ?_
          refine A_getR (pc := 80) C fl_X7_12 rfl (a := 0) (j := 1) rfl (tt_0 hT) rfl dX7_digest_80 ?_
          refine M_iload_n (pc := 83) C dX7_digest_83 rfl ?_
          refine M_iload (pc := 84) C dX7_digest_84 rfl ?_
          refine A_cV (pc := 86) C (x := vI (biF r i2 k)) (a := 1) (c := 0) (c_X0_blockPropertyR hT hV (b := i2) (w := k) (by omega) (by omega)) yw_X0_blockProperty lk_X7_183 rfl (congrArg Prod.fst (tt_1 hT)) hc_0 rfl dX7_digest_86 rfl (Nat.le_of_ble_eq_true rfl) (by decide) ⟨Nat.le_refl _, Nat.le_refl _⟩ ?_
          refine M_wr (pc := 89) ?_
          refine M_i2l (pc := 89) C (wr_i32 _) dX7_digest_89 ?_
          refine A_cS (pc := 90) C (x := vJ (31 * (hsN (hbN r (hfN r (hsN 3499 (ctX r s) 12) 10) i2) (biF r i2) k) + (wr (biF r i2 k)))) (c_X7_mix hT (v := v) (h := hsN (hbN r (hfN r (hsN 3499 (ctX r s) 12) 10) i2) (biF r i2) k) (x := wr (biF r i2 k))) yw_X7_mix lk_X7_221 rfl dX7_digest_90 rfl (Nat.le_of_ble_eq_true rfl) (by decide) ⟨Nat.le_refl _, Nat.le_refl _⟩ ?_
          refine M_lstore_n (pc := 93) C dX7_digest_93 (by decide) ?_
          refine M_iinc (pc := 94) C dX7_digest_94 rfl (by decide) ?_
          refine M_goto (pc := 97) C (tgt := 72) dX7_digest_97 (by decide) ?_
          exact M.to (ihk (by omega)) rfl rfl rfl
    · refine M_aload_n (pc := 37) C dX7_digest_37 rfl (by decide) ?_
      refine A_getR (pc := 38) C fl_X7_12 rfl (a := 0) (j := 1) rfl (tt_0 hT) rfl dX7_digest_38 ?_
      refine M_iload_n (pc := 41) C dX7_digest_41 rfl ?_
      refine A_cV (pc := 42) C (x := vI (Bi (decide (v 5 i1 ≠ -1)))) (a := 1) (c := 0) (c_X0_exists_n (v := v) hT (f := i1) (by omega)) yw_X0_exists lk_X7_225 rfl (congrArg Prod.fst (tt_1 hT)) hc_0 rfl dX7_digest_42 rfl (Nat.le_of_ble_eq_true rfl) (by decide) ⟨Nat.le_refl _, Nat.le_refl _⟩ ?_
      refine M_if_eq (pc := 45) C (tgt := 55) (Bi_i32 _) dX7_digest_45 (by decide) (fun h_45 => ?_) (fun h_45 => ?_)
      · have b_45 := Bid_eq0 h_45
        have hfi : ¬ ro r i1 0 = 1 := fun q => b_45 (hH.zf (by omega) q)
        refine M_iinc (pc := 55) C dX7_digest_55 rfl (by decide) ?_
        refine M_goto (pc := 58) C (tgt := 31) dX7_digest_58 (by decide) ?_
        exact M.to (ih1 (by omega)) (by first | (rw [show hfN r (hsN 3499 (ctX r s) 12) (i1 + 1) = hf2 r i1 (hfN r (hsN 3499 (ctX r s) 12) i1) from if_pos hfi]; rfl) | (rw [show hfN r (hsN 3499 (ctX r s) 12) (i1 + 1) = hfN r (hsN 3499 (ctX r s) 12) i1 from if_neg hfi]; rfl)) rfl rfl
      · have b_45 := Bid_ne0 h_45
        have hfi : ro r i1 0 = 1 := hH.zf2 (by omega) b_45
        refine M_aload_n (pc := 48) C dX7_digest_48 rfl (by decide) ?_
        refine M_lload_n (pc := 49) C dX7_digest_49 rfl ?_
        refine M_iload_n (pc := 50) C dX7_digest_50 rfl ?_
        refine A_cV (pc := 51) C (x := vJ (hf2 r i1 (hfN r (hsN 3499 (ctX r s) 12) i1))) (a := 0) (c := 7) (c_X7_mixFile hT hV (h := hfN r (hsN 3499 (ctX r s) 12) i1) (f := i1) (by omega) hfi) yw_X7_mixFile lk_X7_228 rfl (congrArg Prod.fst (tt_0 hT)) hc_7 rfl dX7_digest_51 rfl (Nat.le_of_ble_eq_true rfl) (by decide) ⟨Nat.le_refl _, Nat.le_refl _⟩ ?_
        refine M_lstore_n (pc := 54) C dX7_digest_54 (by decide) ?_
        refine M_iinc (pc := 55) C dX7_digest_55 rfl (by decide) ?_
        refine M_goto (pc := 58) C (tgt := 31) dX7_digest_58 (by decide) ?_
        exact M.to (ih1 (by omega)) (by first | (rw [show hfN r (hsN 3499 (ctX r s) 12) (i1 + 1) = hf2 r i1 (hfN r (hsN 3499 (ctX r s) 12) i1) from if_pos hfi]; rfl) | (rw [show hfN r (hsN 3499 (ctX r s) 12) (i1 + 1) = hfN r (hsN 3499 (ctX r s) 12) i1 from if_neg hfi]; rfl)) rfl rfl
  · refine M_lload_n (pc := 12) C dX7_digest_12 rfl ?_
    refine M_aload_n (pc := 13) C dX7_digest_13 rfl (by decide) ?_
    refine M_iload_n (pc := 14) C dX7_digest_14 rfl ?_
    refine A_cV (pc := 15) C (x := vI (ctX r s i)) (a := 0) (c := 7) (c_X7_count (v := v) (w := i) (s := s) hT hV (by omega) hs) yw_X7_count lk_X7_216 rfl (congrArg Prod.fst (tt_0 hT)) hc_7 rfl dX7_digest_15 rfl (Nat.le_of_ble_eq_true rfl) (by decide) ⟨Nat.le_refl _, Nat.le_refl _⟩ ?_
    refine M_wr (pc := 18) ?_
    refine M_i2l (pc := 18) C (wr_i32 _) dX7_digest_18 ?_
    refine A_cS (pc := 19) C (x := vJ (31 * (hsN 3499 (ctX r s) i) + (wr (ctX r s i)))) (c_X7_mix hT (v := v) (h := hsN 3499 (ctX r s) i) (x := wr (ctX r s i))) yw_X7_mix lk_X7_221 rfl dX7_digest_19 rfl (Nat.le_of_ble_eq_true rfl) (by decide) ⟨Nat.le_refl _, Nat.le_refl _⟩ ?_
    refine M_lstore_n (pc := 22) C dX7_digest_22 (by decide) ?_
    refine M_iinc (pc := 23) C dX7_digest_23 rfl (by decide) ?_
    refine M_goto (pc := 26) C (tgt := 6) dX7_digest_26 (by decide) ?_
    exact M.to (ih (by omega)) rfl rfl rfl
