theorem c_X8_append_b1 {N : Nat} {T : Ty} {G : Nat → Int} {x : Int} {v : Ct} (hT : TT T) (hx : i32 x) (hb : inB x 33 126 = false) : Runs mX8_append 1 0 0 [vR 84, vI x] N T (sa v 84 G) (some (vI 0)) N T (sa v 84 (rs G 13 1)) := by
  refine Runs.of (by decide) (Nat.le_of_ble_eq_true rfl) fun κ C => ?_
  refine M_aload_n (pc := 0) C dX8_append_0 rfl (by decide) ?_
  refine M_iconst (pc := 1) C dX8_append_1 ?_
  refine A_putI (pc := 2) C fl_X8_41 rfl (by decide) (a := 84) rfl (tt_84 hT) (by omega) dX8_append_2 ?_
  refine M.to (pc := 5) (v2 := sa v 84 (rs G 13 0)) ?_ rfl rfl (by rw [sa_up0])
  refine M_iload_n (pc := 5) C dX8_append_5 rfl ?_
  refine M_bipush (pc := 6) C (by decide) dX8_append_6 ?_
  refine M_bipush (pc := 8) C (by decide) dX8_append_8 ?_
  refine A_cS (pc := 10) C (x := vI (Bi (inB x 33 126))) (c_X8_in hT (x := x) (a := 33) (b := 126) (by omega) (by omega) (by omega)) yw_X8_in lk_X8_45 rfl dX8_append_10 rfl (Nat.le_of_ble_eq_true rfl) (by decide) ⟨Nat.le_refl _, Nat.le_refl _⟩ ?_
  refine M_if_ne (pc := 13) C (tgt := 22) (Bi_i32 _) dX8_append_13 (by decide) (fun h => absurd hb (by rw [Bi_ne0 h]; decide)) (fun _ => ?_)
  refine M_aload_n (pc := 16) C dX8_append_16 rfl (by decide) ?_
  refine M_iconst (pc := 17) C dX8_append_17 ?_
  refine A_cV (pc := 18) C (x := vI 0) (a := 84) (c := 8) (c_X8_fails hT (x := 1) (by decide)) yw_X8_fails lk_X8_81 rfl (congrArg Prod.fst (tt_84 hT)) hc_8 rfl dX8_append_18 rfl (Nat.le_of_ble_eq_true rfl) (by decide) ⟨Nat.le_refl _, Nat.le_refl _⟩ ?_
  refine M.to (v2 := sa v 84 (rs (rs G 13 0) 13 1)) ?_ rfl rfl (by rw [sa_up0])
  exact M_iret (pc := 21) C rfl dX8_append_21 rfl (by rw [rs_rs])
theorem c_X8_append_b2 {N : Nat} {T : Ty} {G : Nat → Int} {x : Int} {v : Ct} (hT : TT T) (hx : i32 x) (hin : inB x 33 126 = true) (hl : G 7 = 60) : Runs mX8_append 1 0 0 [vR 84, vI x] N T (sa v 84 G) (some (vI 0)) N T (sa v 84 (rs G 13 2)) := by
  refine Runs.of (by decide) (Nat.le_of_ble_eq_true rfl) fun κ C => ?_
  refine M_aload_n (pc := 0) C dX8_append_0 rfl (by decide) ?_
  refine M_iconst (pc := 1) C dX8_append_1 ?_
  refine A_putI (pc := 2) C fl_X8_41 rfl (by decide) (a := 84) rfl (tt_84 hT) (by omega) dX8_append_2 ?_
  refine M.to (pc := 5) (v2 := sa v 84 (rs G 13 0)) ?_ rfl rfl (by rw [sa_up0])
  refine M_iload_n (pc := 5) C dX8_append_5 rfl ?_
  refine M_bipush (pc := 6) C (by decide) dX8_append_6 ?_
  refine M_bipush (pc := 8) C (by decide) dX8_append_8 ?_
  refine A_cS (pc := 10) C (x := vI (Bi (inB x 33 126))) (c_X8_in hT (x := x) (a := 33) (b := 126) (by omega) (by omega) (by omega)) yw_X8_in lk_X8_45 rfl dX8_append_10 rfl (Nat.le_of_ble_eq_true rfl) (by decide) ⟨Nat.le_refl _, Nat.le_refl _⟩ ?_
  refine M_if_ne (pc := 13) C (tgt := 22) (Bi_i32 _) dX8_append_13 (by decide) (fun _ => ?_) (fun h => absurd hin (by rw [Bi_eq0 h]; decide))
  refine M_aload_n (pc := 22) C dX8_append_22 rfl (by decide) ?_
  refine A_getI (pc := 23) C fl_X8_164 rfl (a := 84) rfl (tt_84 hT) dX8_append_23 (fun (r_23 : i32 ((rs G 13 0) 7)) => ?_)
  refine M.to (pc := 26) (st2 := [vI ((rs G 13 0) 7)]) ?_ rfl rfl rfl
  refine M_bipush (pc := 26) C (by decide) dX8_append_26 ?_
  have e7 : (rs G 13 0) 7 = G 7 := rs_ne (by decide) _
  refine M_icmp_ne (pc := 28) C (tgt := 37) (by omega) (by omega) dX8_append_28 (by decide) (fun h_28 => ?_) (fun h_28 => ?_)
  · exfalso
    omega
  · refine M_aload_n (pc := 31) C dX8_append_31 rfl (by decide) ?_
    refine M_iconst (pc := 32) C dX8_append_32 ?_
    refine A_cV (pc := 33) C (x := vI 0) (a := 84) (c := 8) (c_X8_fails hT (x := 2) (by decide)) yw_X8_fails lk_X8_81 rfl (congrArg Prod.fst (tt_84 hT)) hc_8 rfl dX8_append_33 rfl (Nat.le_of_ble_eq_true rfl) (by decide) ⟨Nat.le_refl _, Nat.le_refl _⟩ ?_
    refine M.to (v2 := sa v 84 (rs (rs G 13 0) 13 2)) ?_ rfl rfl (by rw [sa_up0])
    exact M_iret (pc := 36) C rfl dX8_append_36 rfl (by rw [rs_rs])
theorem c_X8_append {N : Nat} {T : Ty} {U G : Nat → Int} {x : Int} {n : Nat} {v : Ct} (hT : TT T) (hx : 33 ≤ x ∧ x ≤ 126) (hl : G 7 = (n : Int)) (hn : n < 60) : Runs mX8_append 1 0 0 [vR 84, vI x] N T (sa (sa v 90 U) 84 G) (some (vI ((n + 1 : Nat) : Int))) N T (sa (sa v 90 (rs U n x)) 84 (rs (rs G 13 0) 7 ((n + 1 : Nat) : Int))) := by
  have hin : inB x 33 126 = true := inB_t (by omega) (by omega)
  refine Runs.of (by decide) (Nat.le_of_ble_eq_true rfl) fun κ C => ?_
  refine M_aload_n (pc := 0) C dX8_append_0 rfl (by decide) ?_
  refine M_iconst (pc := 1) C dX8_append_1 ?_
  refine A_putI (pc := 2) C fl_X8_41 rfl (by decide) (a := 84) rfl (tt_84 hT) (by omega) dX8_append_2 ?_
  refine M.to (pc := 5) (v2 := sa (sa v 90 U) 84 (rs G 13 0)) ?_ rfl rfl (by rw [sa_up0])
  refine M_iload_n (pc := 5) C dX8_append_5 rfl ?_
  refine M_bipush (pc := 6) C (by decide) dX8_append_6 ?_
  refine M_bipush (pc := 8) C (by decide) dX8_append_8 ?_
  refine A_cS (pc := 10) C (x := vI (Bi (inB x 33 126))) (c_X8_in hT (x := x) (a := 33) (b := 126) (by omega) (by omega) (by omega)) yw_X8_in lk_X8_45 rfl dX8_append_10 rfl (Nat.le_of_ble_eq_true rfl) (by decide) ⟨Nat.le_refl _, Nat.le_refl _⟩ ?_
  refine M_if_ne (pc := 13) C (tgt := 22) (Bi_i32 _) dX8_append_13 (by decide) (fun _ => ?_) (fun h => absurd hin (by rw [Bi_eq0 h]; decide))
  refine M_aload_n (pc := 22) C dX8_append_22 rfl (by decide) ?_
  refine A_getI (pc := 23) C fl_X8_164 rfl (a := 84) rfl (tt_84 hT) dX8_append_23 (fun (r_23 : i32 ((rs G 13 0) 7)) => ?_)
  refine M.to (pc := 26) (st2 := [vI ((rs G 13 0) 7)]) ?_ rfl rfl rfl
  refine M_bipush (pc := 26) C (by decide) dX8_append_26 ?_
  have e7 : (rs G 13 0) 7 = G 7 := rs_ne (by decide) _
  refine M_icmp_ne (pc := 28) C (tgt := 37) (by omega) (by omega) dX8_append_28 (by decide) (fun h_28 => ?_) (fun h_28 => ?_)
  · refine M_aload_n (pc := 37) C dX8_append_37 rfl (by decide) ?_
    refine A_getR (pc := 38) C fl_X8_26 rfl (a := 84) (j := 90) rfl (tt_84 hT) rfl dX8_append_38 ?_
    refine M_aload_n (pc := 41) C dX8_append_41 rfl (by decide) ?_
    refine A_getI (pc := 42) C fl_X8_164 rfl (a := 84) rfl (tt_84 hT) dX8_append_42 (fun (r_42 : i32 ((rs G 13 0) 7)) => ?_)
    refine M.to (pc := 45) (st2 := [vI ((rs G 13 0) 7), vR 90]) ?_ rfl rfl rfl
    refine M_iload_n (pc := 45) C dX8_append_45 rfl ?_
    refine A_iast (pc := 46) C (a := 90) (q := n) rfl (tt_90 hT) (by decide) (by omega) (by omega) (by omega) dX8_append_46 ?_
    refine M.to (pc := 47) (v2 := sa (sa v 90 (rs U n x)) 84 (rs G 13 0)) ?_ rfl rfl (by rw [sa_up1 (by decide), sa_up0])
    refine M_aload_n (pc := 47) C dX8_append_47 rfl (by decide) ?_
    refine M_dup (pc := 48) C rfl dX8_append_48 ?_
    refine A_getI (pc := 49) C fl_X8_164 rfl (a := 84) rfl (tt_84 hT) dX8_append_49 (fun (r_49 : i32 ((rs G 13 0) 7)) => ?_)
    refine M.to (pc := 52) (st2 := [vI ((rs G 13 0) 7), vR 84]) ?_ rfl rfl rfl
    refine M_iconst (pc := 52) C dX8_append_52 ?_
    refine M_iadd (pc := 53) C dX8_append_53 ?_
    refine M.to (st2 := [vI ((n + 1 : Nat) : Int), vR 84]) ?_ rfl (by rw [show (rs G 13 0) 7 + 1 = ((n + 1 : Nat) : Int) by omega]) rfl
    refine A_putI (pc := 54) C fl_X8_164 rfl (by decide) (a := 84) rfl (tt_84 hT) (by omega) dX8_append_54 ?_
    refine M.to (pc := 57) (v2 := sa (sa v 90 (rs U n x)) 84 (rs (rs G 13 0) 7 ((n + 1 : Nat) : Int))) ?_ rfl rfl (by rw [sa_up0])
    refine M_aload_n (pc := 57) C dX8_append_57 rfl (by decide) ?_
    refine A_getI (pc := 58) C fl_X8_164 rfl (a := 84) rfl (tt_84 hT) dX8_append_58 (fun (r_58 : i32 ((rs (rs G 13 0) 7 ((n + 1 : Nat) : Int)) 7)) => ?_)
    refine M.to (pc := 61) (st2 := [vI ((rs (rs G 13 0) 7 ((n + 1 : Nat) : Int)) 7)]) ?_ rfl rfl rfl
    exact M_iret (pc := 61) C rfl dX8_append_61 (by rw [rs_eq]) rfl
  · exfalso
    omega
theorem c_X8_clearBuffer {N : Nat} {T : Ty} {G : Nat → Int} {v : Ct} (hT : TT T)  : Runs mX8_clearBuffer 0 0 0 [vR 84] N T (sa v 84 G) (some (vI (G 7))) N T (sa v 84 (rs (rs G 13 0) 7 0)) := by
  refine Runs.of (by decide) (Nat.le_of_ble_eq_true rfl) fun κ C => ?_
  refine M_aload_n (pc := 0) C dX8_clearBuffer_0 rfl (by decide) ?_
  refine M_iconst (pc := 1) C dX8_clearBuffer_1 ?_
  refine A_putI (pc := 2) C fl_X8_41 rfl (by decide) (a := 84) rfl (tt_84 hT) (by omega) dX8_clearBuffer_2 ?_
  refine M.to (pc := 5) (v2 := sa v 84 (rs G 13 0)) ?_ rfl rfl (by rw [sa_up0])
  refine M_aload_n (pc := 5) C dX8_clearBuffer_5 rfl (by decide) ?_
  refine A_getI (pc := 6) C fl_X8_164 rfl (a := 84) rfl (tt_84 hT) dX8_clearBuffer_6 (fun (r_6 : i32 ((rs G 13 0) 7)) => ?_)
  refine M.to (pc := 9) (st2 := [vI ((rs G 13 0) 7)]) ?_ rfl rfl rfl
  refine M_istore_n (pc := 9) C dX8_clearBuffer_9 (by decide) ?_
  refine M_aload_n (pc := 10) C dX8_clearBuffer_10 rfl (by decide) ?_
  refine M_iconst (pc := 11) C dX8_clearBuffer_11 ?_
  refine A_putI (pc := 12) C fl_X8_164 rfl (by decide) (a := 84) rfl (tt_84 hT) (by omega) dX8_clearBuffer_12 ?_
  refine M.to (pc := 15) (v2 := sa v 84 (rs (rs G 13 0) 7 0)) ?_ rfl rfl (by rw [sa_up0])
  refine M_iload_n (pc := 15) C dX8_clearBuffer_15 rfl ?_
  exact M_iret (pc := 16) C rfl dX8_clearBuffer_16 (by rw [rs_ne (by decide)]) rfl
theorem c_X8_fileOf_b1 {N : Nat} {T : Ty} {G : Nat → Int} {x y : Int} {v : Ct} (hT : TT T) (hx : i32 x) (hb : isF (v 85) x = false) : Runs mX8_fileOf 2 0 0 [vR 84, vI x, vI y] N T (sa v 84 G) (some (vI 0)) N T (sa v 84 (rs G 13 1)) := by
  refine Runs.of (by decide) (Nat.le_of_ble_eq_true rfl) fun κ C => ?_
  refine M_aload_n (pc := 0) C dX8_fileOf_0 rfl (by decide) ?_
  refine M_iconst (pc := 1) C dX8_fileOf_1 ?_
  refine A_putI (pc := 2) C fl_X8_41 rfl (by decide) (a := 84) rfl (tt_84 hT) (by omega) dX8_fileOf_2 ?_
  refine M.to (pc := 5) (v2 := sa v 84 (rs G 13 0)) ?_ rfl rfl (by rw [sa_up0])
  refine M_aload_n (pc := 5) C dX8_fileOf_5 rfl (by decide) ?_
  refine M_iload_n (pc := 6) C dX8_fileOf_6 rfl ?_
  refine A_cV (pc := 7) C (x := vI (Bi (isF (v 85) x))) (a := 84) (c := 8) (c_X8_isFile hT (f := x) (by omega)) yw_X8_isFile lk_X8_53 rfl (congrArg Prod.fst (tt_84 hT)) hc_8 rfl dX8_fileOf_7 rfl (Nat.le_of_ble_eq_true rfl) (by decide) ⟨Nat.le_refl _, Nat.le_refl _⟩ ?_
  refine M_if_ne (pc := 10) C (tgt := 19) (Bi_i32 _) dX8_fileOf_10 (by decide) (fun h => absurd hb (by rw [Bi_ne0 h]; decide)) (fun _ => ?_)
  refine M_aload_n (pc := 13) C dX8_fileOf_13 rfl (by decide) ?_
  refine M_iconst (pc := 14) C dX8_fileOf_14 ?_
  refine A_cV (pc := 15) C (x := vI 0) (a := 84) (c := 8) (c_X8_fails hT (x := 1) (by decide)) yw_X8_fails lk_X8_81 rfl (congrArg Prod.fst (tt_84 hT)) hc_8 rfl dX8_fileOf_15 rfl (Nat.le_of_ble_eq_true rfl) (by decide) ⟨Nat.le_refl _, Nat.le_refl _⟩ ?_
  refine M.to (v2 := sa v 84 (rs (rs G 13 0) 13 1)) ?_ rfl rfl (by rw [sa_up0])
  exact M_iret (pc := 18) C rfl dX8_fileOf_18 rfl (by rw [rs_rs])
theorem c_X8_fileOf_b2 {N : Nat} {T : Ty} {G : Nat → Int} {f : Nat} {y : Int} {v : Ct} (hT : TT T) (hf : f < 10) (hfi : ro (v 85) f 0 = 1) (hy : i32 y) (hb : inB y 0 6 = false) : Runs mX8_fileOf 2 0 0 [vR 84, vI ((f : Nat) : Int), vI y] N T (sa v 84 G) (some (vI 0)) N T (sa v 84 (rs G 13 2)) := by
  refine Runs.of (by decide) (Nat.le_of_ble_eq_true rfl) fun κ C => ?_
  refine M_aload_n (pc := 0) C dX8_fileOf_0 rfl (by decide) ?_
  refine M_iconst (pc := 1) C dX8_fileOf_1 ?_
  refine A_putI (pc := 2) C fl_X8_41 rfl (by decide) (a := 84) rfl (tt_84 hT) (by omega) dX8_fileOf_2 ?_
  refine M.to (pc := 5) (v2 := sa v 84 (rs G 13 0)) ?_ rfl rfl (by rw [sa_up0])
  refine M_aload_n (pc := 5) C dX8_fileOf_5 rfl (by decide) ?_
  refine M_iload_n (pc := 6) C dX8_fileOf_6 rfl ?_
  refine A_cV (pc := 7) C (x := vI (Bi (decide (ro (v 85) f 0 = 1)))) (a := 84) (c := 8) (c_X8_isFile_n hT (f := f) (by omega)) yw_X8_isFile lk_X8_53 rfl (congrArg Prod.fst (tt_84 hT)) hc_8 rfl dX8_fileOf_7 rfl (Nat.le_of_ble_eq_true rfl) (by decide) ⟨Nat.le_refl _, Nat.le_refl _⟩ ?_
  refine M_if_ne (pc := 10) C (tgt := 19) (Bi_i32 _) dX8_fileOf_10 (by decide) (fun h_10 => ?_) (fun h_10 => ?_)
  · have b_10 := Bid_ne0 h_10
    refine M_iload_n (pc := 19) C dX8_fileOf_19 rfl ?_
    refine M_iconst (pc := 20) C dX8_fileOf_20 ?_
    refine M_bipush (pc := 21) C (by decide) dX8_fileOf_21 ?_
    refine A_cS (pc := 23) C (x := vI (Bi (inB y 0 6))) (c_X8_in hT (x := y) (a := 0) (b := 6) (by omega) (by omega) (by omega)) yw_X8_in lk_X8_45 rfl dX8_fileOf_23 rfl (Nat.le_of_ble_eq_true rfl) (by decide) ⟨Nat.le_refl _, Nat.le_refl _⟩ ?_
    refine M_if_eq (pc := 26) C (tgt := 38) (Bi_i32 _) dX8_fileOf_26 (by decide) (fun _ => ?_) (fun h => absurd hb (by rw [Bi_ne0 h]; decide))
    refine M_aload_n (pc := 38) C dX8_fileOf_38 rfl (by decide) ?_
    refine M_iconst (pc := 39) C dX8_fileOf_39 ?_
    refine A_cV (pc := 40) C (x := vI 0) (a := 84) (c := 8) (c_X8_fails hT (x := 2) (by decide)) yw_X8_fails lk_X8_81 rfl (congrArg Prod.fst (tt_84 hT)) hc_8 rfl dX8_fileOf_40 rfl (Nat.le_of_ble_eq_true rfl) (by decide) ⟨Nat.le_refl _, Nat.le_refl _⟩ ?_
    refine M.to (v2 := sa v 84 (rs (rs G 13 0) 13 2)) ?_ rfl rfl (by rw [sa_up0])
    exact M_iret (pc := 43) C rfl dX8_fileOf_43 rfl (by rw [rs_rs])
  · have b_10 := Bid_eq0 h_10
    exact absurd hfi b_10
theorem c_X8_fileOf {N : Nat} {T : Ty} {G : Nat → Int} {f w : Nat} {v : Ct} (hT : TT T) (hI : RI (v 85)) (hf : f < 10) (hfi : ro (v 85) f 0 = 1) (hw : w < 7) : Runs mX8_fileOf 3 0 0 [vR 84, vI ((f : Nat) : Int), vI ((w : Nat) : Int)] N T (sa v 84 G) (some (vI (prF (v 85) f w))) N T (sa v 84 (rs G 13 0)) := by
  have hb : inB ((w : Nat) : Int) 0 6 = true := inB_t (by omega) (by omega)
  refine Runs.of (by decide) (Nat.le_of_ble_eq_true rfl) fun κ C => ?_
  refine M_aload_n (pc := 0) C dX8_fileOf_0 rfl (by decide) ?_
  refine M_iconst (pc := 1) C dX8_fileOf_1 ?_
  refine A_putI (pc := 2) C fl_X8_41 rfl (by decide) (a := 84) rfl (tt_84 hT) (by omega) dX8_fileOf_2 ?_
  refine M.to (pc := 5) (v2 := sa v 84 (rs G 13 0)) ?_ rfl rfl (by rw [sa_up0])
  refine M_aload_n (pc := 5) C dX8_fileOf_5 rfl (by decide) ?_
  refine M_iload_n (pc := 6) C dX8_fileOf_6 rfl ?_
  refine A_cV (pc := 7) C (x := vI (Bi (decide (ro (v 85) f 0 = 1)))) (a := 84) (c := 8) (c_X8_isFile_n hT (f := f) (by omega)) yw_X8_isFile lk_X8_53 rfl (congrArg Prod.fst (tt_84 hT)) hc_8 rfl dX8_fileOf_7 rfl (Nat.le_of_ble_eq_true rfl) (by decide) ⟨Nat.le_refl _, Nat.le_refl _⟩ ?_
  refine M_if_ne (pc := 10) C (tgt := 19) (Bi_i32 _) dX8_fileOf_10 (by decide) (fun h_10 => ?_) (fun h_10 => ?_)
  · have b_10 := Bid_ne0 h_10
    refine M_iload_n (pc := 19) C dX8_fileOf_19 rfl ?_
    refine M_iconst (pc := 20) C dX8_fileOf_20 ?_
    refine M_bipush (pc := 21) C (by decide) dX8_fileOf_21 ?_
    refine A_cS (pc := 23) C (x := vI (Bi (inB ((w : Nat) : Int) 0 6))) (c_X8_in hT (x := ((w : Nat) : Int)) (a := 0) (b := 6) (by omega) (by omega) (by omega)) yw_X8_in lk_X8_45 rfl dX8_fileOf_23 rfl (Nat.le_of_ble_eq_true rfl) (by decide) ⟨Nat.le_refl _, Nat.le_refl _⟩ ?_
    refine M_if_eq (pc := 26) C (tgt := 38) (Bi_i32 _) dX8_fileOf_26 (by decide) (fun h => absurd hb (by rw [Bi_eq0 h]; decide)) (fun _ => ?_)
    refine M_aload_n (pc := 29) C dX8_fileOf_29 rfl (by decide) ?_
    refine M_iload_n (pc := 30) C dX8_fileOf_30 rfl ?_
    refine M_iload_n (pc := 31) C dX8_fileOf_31 rfl ?_
    refine A_cV (pc := 32) C (x := vI (prF (v 85) f w)) (a := 84) (c := 8) (c_X8_property hT hI (f := f) (w := w) (by omega) (by omega)) yw_X8_property lk_X8_195 rfl (congrArg Prod.fst (tt_84 hT)) hc_8 rfl dX8_fileOf_32 rfl (Nat.le_of_ble_eq_true rfl) (by decide) ⟨Nat.le_refl _, Nat.le_refl _⟩ ?_
    refine M_goto (pc := 35) C (tgt := 43) dX8_fileOf_35 (by decide) ?_
    exact M_iret (pc := 43) C rfl dX8_fileOf_43 rfl rfl
  · have b_10 := Bid_eq0 h_10
    exact absurd hfi b_10
theorem c_X8_placeOf {N : Nat} {T : Ty} {f c : Nat} {v : Ct} (hT : TT T) (hI : RI (v 85)) (hf : f < 10) (hc : (c : Int) < ro (v 85) f 1) : Runs mX8_placeOf 2 0 0 [vR 84, vI ((f : Nat) : Int), vI ((c : Nat) : Int)] N T v (some (vI (plO (v 85) f c))) N T v := by
  have hf1 := hI f hf
  have hli := fun h => hf1.2.2.2.2.1 (c / 16) h
  refine Runs.of (by decide) (Nat.le_of_ble_eq_true rfl) fun κ C => ?_
  refine M_iload_n (pc := 0) C dX8_placeOf_0 rfl ?_
  refine M_bipush (pc := 1) C (by decide) dX8_placeOf_1 ?_
  refine M_idiv (pc := 3) C (by omega) (by decide) dX8_placeOf_3 ?_
  refine M_istore_n (pc := 4) C dX8_placeOf_4 (by decide) ?_
  refine M_iload_n (pc := 5) C dX8_placeOf_5 rfl ?_
  refine M_aload_n (pc := 6) C dX8_placeOf_6 rfl (by decide) ?_
  refine M_iload_n (pc := 7) C dX8_placeOf_7 rfl ?_
  refine A_cV (pc := 8) C (x := vI (ro (v 85) f 1 / 16)) (a := 84) (c := 8) (c_X8_wholeOf hT hI (f := f) (by omega)) yw_X8_wholeOf lk_X8_93 rfl (congrArg Prod.fst (tt_84 hT)) hc_8 rfl dX8_placeOf_8 rfl (Nat.le_of_ble_eq_true rfl) (by decide) ⟨Nat.le_refl _, Nat.le_refl _⟩ ?_
  refine T_icmp_ne (pc := 11) C (by omega) (by omega) dX8_placeOf_11 dX8_placeOf_14 dX8_placeOf_15 dX8_placeOf_18 ?_
  refine M_istore (pc := 19) C dX8_placeOf_19 (by decide) ?_
  refine M_iload (pc := 21) C dX8_placeOf_21 rfl ?_
  refine M_if_eq (pc := 23) C (tgt := 35) (Bi_i32 _) dX8_placeOf_23 (by decide) (fun h_23 => ?_) (fun h_23 => ?_)
  · have b_23 := Bid_eq0 h_23
    have kb_23 := Bi_eq0 h_23
    have hli2 := hli (by omega)
    refine M_aload_n (pc := 35) C dX8_placeOf_35 rfl (by decide) ?_
    refine M_iload_n (pc := 36) C dX8_placeOf_36 rfl ?_
    refine M_bipush (pc := 37) C (by decide) dX8_placeOf_37 ?_
    refine M_iload_n (pc := 39) C dX8_placeOf_39 rfl ?_
    refine M_iadd (pc := 40) C dX8_placeOf_40 ?_
    refine A_cV (pc := 41) C (x := vI (ro (v 85) f (6 + (c / 16)))) (a := 84) (c := 8) (c_X8_of (f := f) (w := 6 + (c / 16)) hT (by omega)) yw_X8_of lk_X8_49 rfl (congrArg Prod.fst (tt_84 hT)) hc_8 rfl dX8_placeOf_41 rfl (Nat.le_of_ble_eq_true rfl) (by decide) ⟨Nat.le_refl _, Nat.le_refl _⟩ ?_
    refine M_rd (pc := 44) C 85 (27 + 18 * f + (6 + (c / 16))) (fun (r_41_0 : i32 (ro (v 85) f (6 + (c / 16)))) => ?_)
    have hpb : plB (v 85) f c = ro (v 85) f (6 + c / 16) := if_neg b_23
    have hli3 := hli2
    have hpb2 : 0 ≤ plB (v 85) f c ∧ plB (v 85) f c < 24 := by rw [hpb]; omega
    refine M.to (st2 := [vI (plB (v 85) f c)]) ?_ rfl (by rw [hpb]) rfl
    refine M_istore (pc := 44) C dX8_placeOf_44 (by decide) ?_
    refine M_aload_n (pc := 46) C dX8_placeOf_46 rfl (by decide) ?_
    refine A_getR (pc := 47) C fl_X8_7 rfl (a := 84) (j := 85) rfl (tt_84 hT) rfl dX8_placeOf_47 ?_
    refine M_iconst (pc := 50) C dX8_placeOf_50 ?_
    refine M_iload (pc := 51) C dX8_placeOf_51 rfl ?_
    refine M_iadd (pc := 53) C dX8_placeOf_53 ?_
    refine A_iald (pc := 54) C (a := 85) (q := (3 + (plB (v 85) f c).toNat)) rfl (tt_85 hT) (by decide) (by omega) (by omega) dX8_placeOf_54 (fun (r_54 : i32 (v 85 (3 + (plB (v 85) f c).toNat))) => ?_)
    refine M_iconst (pc := 55) C dX8_placeOf_55 ?_
    refine M_icmp_ne (pc := 56) C (tgt := 63) (by omega) (by omega) dX8_placeOf_56 (by decide) (fun h_56 => ?_) (fun h_56 => ?_)
    · refine M_bipush (pc := 63) C (by decide) dX8_placeOf_63 ?_
      refine M_iload (pc := 65) C dX8_placeOf_65 rfl ?_
      refine M_imul (pc := 67) C dX8_placeOf_67 ?_
      refine M_iload_n (pc := 68) C dX8_placeOf_68 rfl ?_
      refine M_bipush (pc := 69) C (by decide) dX8_placeOf_69 ?_
      refine M_irem (pc := 71) C (by omega) (by decide) dX8_placeOf_71 ?_
      refine M_iadd (pc := 72) C dX8_placeOf_72 ?_
      refine M_iload (pc := 73) C dX8_placeOf_73 rfl ?_
      refine M_if_eq (pc := 75) C (tgt := 87) (Bi_i32 _) dX8_placeOf_75 (by decide) (fun _ => ?_) (fun h => absurd kb_23 (by rw [Bi_ne0 h]; decide))
      refine M_iconst (pc := 87) C dX8_placeOf_87 ?_
      refine M_iadd (pc := 88) C dX8_placeOf_88 ?_
      exact M_iret (pc := 89) C rfl dX8_placeOf_89 (by unfold plO; rw [show ((c / 16 : Nat) : Int) = (c : Int) / 16 by omega, show ((c % 16 : Nat) : Int) = (c : Int) % 16 by omega]; first | (rw [if_pos (by omega)]; done) | (rw [if_neg (by omega), if_pos b_23]; done) | (rw [if_neg (by omega), if_neg b_23]; done)) rfl
    · refine M_iconst (pc := 59) C dX8_placeOf_59 ?_
      refine M_goto (pc := 60) C (tgt := 89) dX8_placeOf_60 (by decide) ?_
      exact M_iret (pc := 89) C rfl dX8_placeOf_89 (by unfold plO; rw [show ((c / 16 : Nat) : Int) = (c : Int) / 16 by omega, show ((c % 16 : Nat) : Int) = (c : Int) % 16 by omega]; first | (rw [if_pos (by omega)]; done) | (rw [if_neg (by omega), if_pos b_23]; done) | (rw [if_neg (by omega), if_neg b_23]; done)) rfl
  · have b_23 := Bid_ne0 h_23
    have kb_23 := Bi_ne0 h_23
    have hpb : plB (v 85) f c = ro (v 85) f 3 := if_pos b_23
    refine M_aload_n (pc := 26) C dX8_placeOf_26 rfl (by decide) ?_
    refine M_iload_n (pc := 27) C dX8_placeOf_27 rfl ?_
    refine M_iconst (pc := 28) C dX8_placeOf_28 ?_
    refine A_cV (pc := 29) C (x := vI (ro (v 85) f 3)) (a := 84) (c := 8) (c_X8_of (f := f) (w := 3) hT (by omega)) yw_X8_of lk_X8_49 rfl (congrArg Prod.fst (tt_84 hT)) hc_8 rfl dX8_placeOf_29 rfl (Nat.le_of_ble_eq_true rfl) (by decide) ⟨Nat.le_refl _, Nat.le_refl _⟩ ?_
    refine M_rd (pc := 32) C 85 (27 + 18 * f + 3) (fun (r_29_0 : i32 (ro (v 85) f 3)) => ?_)
    refine M_goto (pc := 32) C (tgt := 44) dX8_placeOf_32 (by decide) ?_
    have hpb2 : 0 ≤ plB (v 85) f c ∧ plB (v 85) f c < 24 := by rw [hpb]; omega
    refine M.to (st2 := [vI (plB (v 85) f c)]) ?_ rfl (by rw [hpb]) rfl
    refine M_istore (pc := 44) C dX8_placeOf_44 (by decide) ?_
    refine M_aload_n (pc := 46) C dX8_placeOf_46 rfl (by decide) ?_
    refine A_getR (pc := 47) C fl_X8_7 rfl (a := 84) (j := 85) rfl (tt_84 hT) rfl dX8_placeOf_47 ?_
    refine M_iconst (pc := 50) C dX8_placeOf_50 ?_
    refine M_iload (pc := 51) C dX8_placeOf_51 rfl ?_
    refine M_iadd (pc := 53) C dX8_placeOf_53 ?_
    refine A_iald (pc := 54) C (a := 85) (q := (3 + (plB (v 85) f c).toNat)) rfl (tt_85 hT) (by decide) (by omega) (by omega) dX8_placeOf_54 (fun (r_54 : i32 (v 85 (3 + (plB (v 85) f c).toNat))) => ?_)
    refine M_iconst (pc := 55) C dX8_placeOf_55 ?_
    refine M_icmp_ne (pc := 56) C (tgt := 63) (by omega) (by omega) dX8_placeOf_56 (by decide) (fun h_56 => ?_) (fun h_56 => ?_)
    · refine M_bipush (pc := 63) C (by decide) dX8_placeOf_63 ?_
      refine M_iload (pc := 65) C dX8_placeOf_65 rfl ?_
      refine M_imul (pc := 67) C dX8_placeOf_67 ?_
      refine M_iload_n (pc := 68) C dX8_placeOf_68 rfl ?_
      refine M_bipush (pc := 69) C (by decide) dX8_placeOf_69 ?_
      refine M_irem (pc := 71) C (by omega) (by decide) dX8_placeOf_71 ?_
      refine M_iadd (pc := 72) C dX8_placeOf_72 ?_
      refine M_iload (pc := 73) C dX8_placeOf_73 rfl ?_
      refine M_if_eq (pc := 75) C (tgt := 87) (Bi_i32 _) dX8_placeOf_75 (by decide) (fun h => absurd kb_23 (by rw [Bi_eq0 h]; decide)) (fun _ => ?_)
      refine M_aload_n (pc := 78) C dX8_placeOf_78 rfl (by decide) ?_
      refine M_iload_n (pc := 79) C dX8_placeOf_79 rfl ?_
      refine M_iconst (pc := 80) C dX8_placeOf_80 ?_
      refine A_cV (pc := 81) C (x := vI (ro (v 85) f 4)) (a := 84) (c := 8) (c_X8_of (f := f) (w := 4) hT (by omega)) yw_X8_of lk_X8_49 rfl (congrArg Prod.fst (tt_84 hT)) hc_8 rfl dX8_placeOf_81 rfl (Nat.le_of_ble_eq_true rfl) (by decide) ⟨Nat.le_refl _, Nat.le_refl _⟩ ?_
      refine M_rd (pc := 84) C 85 (27 + 18 * f + 4) (fun (r_81_0 : i32 (ro (v 85) f 4)) => ?_)
      refine M_goto (pc := 84) C (tgt := 88) dX8_placeOf_84 (by decide) ?_
      refine M_iadd (pc := 88) C dX8_placeOf_88 ?_
      exact M_iret (pc := 89) C rfl dX8_placeOf_89 (by unfold plO; rw [show ((c / 16 : Nat) : Int) = (c : Int) / 16 by omega, show ((c % 16 : Nat) : Int) = (c : Int) % 16 by omega]; first | (rw [if_pos (by omega)]; done) | (rw [if_neg (by omega), if_pos b_23]; done) | (rw [if_neg (by omega), if_neg b_23]; done)) rfl
    · refine M_iconst (pc := 59) C dX8_placeOf_59 ?_
      refine M_goto (pc := 60) C (tgt := 89) dX8_placeOf_60 (by decide) ?_
      exact M_iret (pc := 89) C rfl dX8_placeOf_89 (by unfold plO; rw [show ((c / 16 : Nat) : Int) = (c : Int) / 16 by omega, show ((c % 16 : Nat) : Int) = (c : Int) % 16 by omega]; first | (rw [if_pos (by omega)]; done) | (rw [if_neg (by omega), if_pos b_23]; done) | (rw [if_neg (by omega), if_neg b_23]; done)) rfl
theorem c_X8_place_b1 {N : Nat} {T : Ty} {G : Nat → Int} {x y : Int} {v : Ct} (hT : TT T) (hx : i32 x) (hb : isF (v 85) x = false) : Runs mX8_place 2 0 0 [vR 84, vI x, vI y] N T (sa v 84 G) (some (vI 0)) N T (sa v 84 (rs G 13 1)) := by
  refine Runs.of (by decide) (Nat.le_of_ble_eq_true rfl) fun κ C => ?_
  refine M_aload_n (pc := 0) C dX8_place_0 rfl (by decide) ?_
  refine M_iconst (pc := 1) C dX8_place_1 ?_
  refine A_putI (pc := 2) C fl_X8_41 rfl (by decide) (a := 84) rfl (tt_84 hT) (by omega) dX8_place_2 ?_
  refine M.to (pc := 5) (v2 := sa v 84 (rs G 13 0)) ?_ rfl rfl (by rw [sa_up0])
  refine M_aload_n (pc := 5) C dX8_place_5 rfl (by decide) ?_
  refine M_iload_n (pc := 6) C dX8_place_6 rfl ?_
  refine A_cV (pc := 7) C (x := vI (Bi (isF (v 85) x))) (a := 84) (c := 8) (c_X8_isFile hT (f := x) (by omega)) yw_X8_isFile lk_X8_53 rfl (congrArg Prod.fst (tt_84 hT)) hc_8 rfl dX8_place_7 rfl (Nat.le_of_ble_eq_true rfl) (by decide) ⟨Nat.le_refl _, Nat.le_refl _⟩ ?_
  refine M_if_eq (pc := 10) C (tgt := 38) (Bi_i32 _) dX8_place_10 (by decide) (fun _ => ?_) (fun h => absurd hb (by rw [Bi_ne0 h]; decide))
  refine M_aload_n (pc := 38) C dX8_place_38 rfl (by decide) ?_
  refine M_iconst (pc := 39) C dX8_place_39 ?_
  refine A_cV (pc := 40) C (x := vI 0) (a := 84) (c := 8) (c_X8_fails hT (x := 1) (by decide)) yw_X8_fails lk_X8_81 rfl (congrArg Prod.fst (tt_84 hT)) hc_8 rfl dX8_place_40 rfl (Nat.le_of_ble_eq_true rfl) (by decide) ⟨Nat.le_refl _, Nat.le_refl _⟩ ?_
  refine M.to (v2 := sa v 84 (rs (rs G 13 0) 13 1)) ?_ rfl rfl (by rw [sa_up0])
  exact M_iret (pc := 43) C rfl dX8_place_43 rfl (by rw [rs_rs])
theorem c_X8_place_b2 {N : Nat} {T : Ty} {G : Nat → Int} {f : Nat} {y : Int} {v : Ct} (hT : TT T) (hI : RI (v 85)) (hf : f < 10) (hfi : ro (v 85) f 0 = 1) (hy : i32 y) (hb : inB y 0 (ro (v 85) f 1 - 1) = false) : Runs mX8_place 2 0 0 [vR 84, vI ((f : Nat) : Int), vI y] N T (sa v 84 G) (some (vI 0)) N T (sa v 84 (rs G 13 1)) := by
  have hf1 := hI f hf
  refine Runs.of (by decide) (Nat.le_of_ble_eq_true rfl) fun κ C => ?_
  refine M_aload_n (pc := 0) C dX8_place_0 rfl (by decide) ?_
  refine M_iconst (pc := 1) C dX8_place_1 ?_
  refine A_putI (pc := 2) C fl_X8_41 rfl (by decide) (a := 84) rfl (tt_84 hT) (by omega) dX8_place_2 ?_
  refine M.to (pc := 5) (v2 := sa v 84 (rs G 13 0)) ?_ rfl rfl (by rw [sa_up0])
  refine M_aload_n (pc := 5) C dX8_place_5 rfl (by decide) ?_
  refine M_iload_n (pc := 6) C dX8_place_6 rfl ?_
  refine A_cV (pc := 7) C (x := vI (Bi (decide (ro (v 85) f 0 = 1)))) (a := 84) (c := 8) (c_X8_isFile_n hT (f := f) (by omega)) yw_X8_isFile lk_X8_53 rfl (congrArg Prod.fst (tt_84 hT)) hc_8 rfl dX8_place_7 rfl (Nat.le_of_ble_eq_true rfl) (by decide) ⟨Nat.le_refl _, Nat.le_refl _⟩ ?_
  refine M_if_eq (pc := 10) C (tgt := 38) (Bi_i32 _) dX8_place_10 (by decide) (fun h_10 => ?_) (fun h_10 => ?_)
  · have b_10 := Bid_eq0 h_10
    exact absurd hfi b_10
  · have b_10 := Bid_ne0 h_10
    refine M_iload_n (pc := 13) C dX8_place_13 rfl ?_
    refine M_iconst (pc := 14) C dX8_place_14 ?_
    refine M_aload_n (pc := 15) C dX8_place_15 rfl (by decide) ?_
    refine M_iload_n (pc := 16) C dX8_place_16 rfl ?_
    refine M_iconst (pc := 17) C dX8_place_17 ?_
    refine A_cV (pc := 18) C (x := vI (ro (v 85) f 1)) (a := 84) (c := 8) (c_X8_of (f := f) (w := 1) hT (by omega)) yw_X8_of lk_X8_49 rfl (congrArg Prod.fst (tt_84 hT)) hc_8 rfl dX8_place_18 rfl (Nat.le_of_ble_eq_true rfl) (by decide) ⟨Nat.le_refl _, Nat.le_refl _⟩ ?_
    refine M_rd (pc := 21) C 85 (27 + 18 * f + 1) (fun (r_18_0 : i32 (ro (v 85) f 1)) => ?_)
    refine M_iconst (pc := 21) C dX8_place_21 ?_
    refine M_isub (pc := 22) C dX8_place_22 ?_
    refine A_cS (pc := 23) C (x := vI (Bi (inB y 0 ((ro (v 85) f 1) - 1)))) (c_X8_in hT (x := y) (a := 0) (b := (ro (v 85) f 1) - 1) (by omega) (by omega) (by omega)) yw_X8_in lk_X8_45 rfl dX8_place_23 rfl (Nat.le_of_ble_eq_true rfl) (by decide) ⟨Nat.le_refl _, Nat.le_refl _⟩ ?_
    refine M_if_eq (pc := 26) C (tgt := 38) (Bi_i32 _) dX8_place_26 (by decide) (fun _ => ?_) (fun h => absurd hb (by rw [Bi_ne0 h]; decide))
    refine M_aload_n (pc := 38) C dX8_place_38 rfl (by decide) ?_
    refine M_iconst (pc := 39) C dX8_place_39 ?_
    refine A_cV (pc := 40) C (x := vI 0) (a := 84) (c := 8) (c_X8_fails hT (x := 1) (by decide)) yw_X8_fails lk_X8_81 rfl (congrArg Prod.fst (tt_84 hT)) hc_8 rfl dX8_place_40 rfl (Nat.le_of_ble_eq_true rfl) (by decide) ⟨Nat.le_refl _, Nat.le_refl _⟩ ?_
    refine M.to (v2 := sa v 84 (rs (rs G 13 0) 13 1)) ?_ rfl rfl (by rw [sa_up0])
    exact M_iret (pc := 43) C rfl dX8_place_43 rfl (by rw [rs_rs])
theorem c_X8_place {N : Nat} {T : Ty} {G : Nat → Int} {f c : Nat} {v : Ct} (hT : TT T) (hI : RI (v 85)) (hf : f < 10) (hfi : ro (v 85) f 0 = 1) (hc : (c : Int) < ro (v 85) f 1) : Runs mX8_place 3 0 0 [vR 84, vI ((f : Nat) : Int), vI ((c : Nat) : Int)] N T (sa v 84 G) (some (vI (plO (v 85) f c))) N T (sa v 84 (rs G 13 0)) := by
  have hf1 := hI f hf
  have hb : inB ((c : Nat) : Int) 0 (ro (v 85) f 1 - 1) = true := inB_t (by omega) (by omega)
  refine Runs.of (by decide) (Nat.le_of_ble_eq_true rfl) fun κ C => ?_
  refine M_aload_n (pc := 0) C dX8_place_0 rfl (by decide) ?_
  refine M_iconst (pc := 1) C dX8_place_1 ?_
  refine A_putI (pc := 2) C fl_X8_41 rfl (by decide) (a := 84) rfl (tt_84 hT) (by omega) dX8_place_2 ?_
  refine M.to (pc := 5) (v2 := sa v 84 (rs G 13 0)) ?_ rfl rfl (by rw [sa_up0])
  refine M_aload_n (pc := 5) C dX8_place_5 rfl (by decide) ?_
  refine M_iload_n (pc := 6) C dX8_place_6 rfl ?_
  refine A_cV (pc := 7) C (x := vI (Bi (decide (ro (v 85) f 0 = 1)))) (a := 84) (c := 8) (c_X8_isFile_n hT (f := f) (by omega)) yw_X8_isFile lk_X8_53 rfl (congrArg Prod.fst (tt_84 hT)) hc_8 rfl dX8_place_7 rfl (Nat.le_of_ble_eq_true rfl) (by decide) ⟨Nat.le_refl _, Nat.le_refl _⟩ ?_
  refine M_if_eq (pc := 10) C (tgt := 38) (Bi_i32 _) dX8_place_10 (by decide) (fun h_10 => ?_) (fun h_10 => ?_)
  · have b_10 := Bid_eq0 h_10
    exact absurd hfi b_10
  · have b_10 := Bid_ne0 h_10
    refine M_iload_n (pc := 13) C dX8_place_13 rfl ?_
    refine M_iconst (pc := 14) C dX8_place_14 ?_
    refine M_aload_n (pc := 15) C dX8_place_15 rfl (by decide) ?_
    refine M_iload_n (pc := 16) C dX8_place_16 rfl ?_
    refine M_iconst (pc := 17) C dX8_place_17 ?_
    refine A_cV (pc := 18) C (x := vI (ro (v 85) f 1)) (a := 84) (c := 8) (c_X8_of (f := f) (w := 1) hT (by omega)) yw_X8_of lk_X8_49 rfl (congrArg Prod.fst (tt_84 hT)) hc_8 rfl dX8_place_18 rfl (Nat.le_of_ble_eq_true rfl) (by decide) ⟨Nat.le_refl _, Nat.le_refl _⟩ ?_
    refine M_rd (pc := 21) C 85 (27 + 18 * f + 1) (fun (r_18_0 : i32 (ro (v 85) f 1)) => ?_)
    refine M_iconst (pc := 21) C dX8_place_21 ?_
    refine M_isub (pc := 22) C dX8_place_22 ?_
    refine A_cS (pc := 23) C (x := vI (Bi (inB ((c : Nat) : Int) 0 ((ro (v 85) f 1) - 1)))) (c_X8_in hT (x := ((c : Nat) : Int)) (a := 0) (b := (ro (v 85) f 1) - 1) (by omega) (by omega) (by omega)) yw_X8_in lk_X8_45 rfl dX8_place_23 rfl (Nat.le_of_ble_eq_true rfl) (by decide) ⟨Nat.le_refl _, Nat.le_refl _⟩ ?_
    refine M_if_eq (pc := 26) C (tgt := 38) (Bi_i32 _) dX8_place_26 (by decide) (fun h => absurd hb (by rw [Bi_eq0 h]; decide)) (fun _ => ?_)
    refine M_aload_n (pc := 29) C dX8_place_29 rfl (by decide) ?_
    refine M_iload_n (pc := 30) C dX8_place_30 rfl ?_
    refine M_iload_n (pc := 31) C dX8_place_31 rfl ?_
    refine A_cV (pc := 32) C (x := vI (plO (v 85) f c)) (a := 84) (c := 8) (c_X8_placeOf hT hI (f := f) (c := c) (by omega) hc) yw_X8_placeOf lk_X8_198 rfl (congrArg Prod.fst (tt_84 hT)) hc_8 rfl dX8_place_32 rfl (Nat.le_of_ble_eq_true rfl) (by decide) ⟨Nat.le_refl _, Nat.le_refl _⟩ ?_
    refine M_goto (pc := 35) C (tgt := 43) dX8_place_35 (by decide) ?_
    exact M_iret (pc := 43) C rfl dX8_place_43 rfl rfl
theorem c_X8_blockOf_b1 {N : Nat} {T : Ty} {G : Nat → Int} {x y : Int} {v : Ct} (hT : TT T) (hx : i32 x) (hb : inB x 0 23 = false) : Runs mX8_blockOf 1 0 0 [vR 84, vI x, vI y] N T (sa v 84 G) (some (vI 0)) N T (sa v 84 (rs G 13 1)) := by
  refine Runs.of (by decide) (Nat.le_of_ble_eq_true rfl) fun κ C => ?_
  refine M_aload_n (pc := 0) C dX8_blockOf_0 rfl (by decide) ?_
  refine M_iconst (pc := 1) C dX8_blockOf_1 ?_
  refine A_putI (pc := 2) C fl_X8_41 rfl (by decide) (a := 84) rfl (tt_84 hT) (by omega) dX8_blockOf_2 ?_
  refine M.to (pc := 5) (v2 := sa v 84 (rs G 13 0)) ?_ rfl rfl (by rw [sa_up0])
  refine M_iload_n (pc := 5) C dX8_blockOf_5 rfl ?_
  refine M_iconst (pc := 6) C dX8_blockOf_6 ?_
  refine M_bipush (pc := 7) C (by decide) dX8_blockOf_7 ?_
  refine A_cS (pc := 9) C (x := vI (Bi (inB x 0 23))) (c_X8_in hT (x := x) (a := 0) (b := 23) (by omega) (by omega) (by omega)) yw_X8_in lk_X8_45 rfl dX8_blockOf_9 rfl (Nat.le_of_ble_eq_true rfl) (by decide) ⟨Nat.le_refl _, Nat.le_refl _⟩ ?_
  refine M_if_ne (pc := 12) C (tgt := 21) (Bi_i32 _) dX8_blockOf_12 (by decide) (fun h => absurd hb (by rw [Bi_ne0 h]; decide)) (fun _ => ?_)
  refine M_aload_n (pc := 15) C dX8_blockOf_15 rfl (by decide) ?_
  refine M_iconst (pc := 16) C dX8_blockOf_16 ?_
  refine A_cV (pc := 17) C (x := vI 0) (a := 84) (c := 8) (c_X8_fails hT (x := 1) (by decide)) yw_X8_fails lk_X8_81 rfl (congrArg Prod.fst (tt_84 hT)) hc_8 rfl dX8_blockOf_17 rfl (Nat.le_of_ble_eq_true rfl) (by decide) ⟨Nat.le_refl _, Nat.le_refl _⟩ ?_
  refine M.to (v2 := sa v 84 (rs (rs G 13 0) 13 1)) ?_ rfl rfl (by rw [sa_up0])
  exact M_iret (pc := 20) C rfl dX8_blockOf_20 rfl (by rw [rs_rs])
theorem c_X8_blockOf_b2 {N : Nat} {T : Ty} {G : Nat → Int} {b : Nat} {y : Int} {v : Ct} (hT : TT T) (hb : b < 24) (hy : i32 y) (hb2 : inB y 0 4 = false) : Runs mX8_blockOf 1 0 0 [vR 84, vI ((b : Nat) : Int), vI y] N T (sa v 84 G) (some (vI 0)) N T (sa v 84 (rs G 13 2)) := by
  have hin : inB ((b : Nat) : Int) 0 23 = true := inB_t (by omega) (by omega)
  refine Runs.of (by decide) (Nat.le_of_ble_eq_true rfl) fun κ C => ?_
  refine M_aload_n (pc := 0) C dX8_blockOf_0 rfl (by decide) ?_
  refine M_iconst (pc := 1) C dX8_blockOf_1 ?_
  refine A_putI (pc := 2) C fl_X8_41 rfl (by decide) (a := 84) rfl (tt_84 hT) (by omega) dX8_blockOf_2 ?_
  refine M.to (pc := 5) (v2 := sa v 84 (rs G 13 0)) ?_ rfl rfl (by rw [sa_up0])
  refine M_iload_n (pc := 5) C dX8_blockOf_5 rfl ?_
  refine M_iconst (pc := 6) C dX8_blockOf_6 ?_
  refine M_bipush (pc := 7) C (by decide) dX8_blockOf_7 ?_
  refine A_cS (pc := 9) C (x := vI (Bi (inB ((b : Nat) : Int) 0 23))) (c_X8_in hT (x := ((b : Nat) : Int)) (a := 0) (b := 23) (by omega) (by omega) (by omega)) yw_X8_in lk_X8_45 rfl dX8_blockOf_9 rfl (Nat.le_of_ble_eq_true rfl) (by decide) ⟨Nat.le_refl _, Nat.le_refl _⟩ ?_
  refine M_if_ne (pc := 12) C (tgt := 21) (Bi_i32 _) dX8_blockOf_12 (by decide) (fun _ => ?_) (fun h => absurd hin (by rw [Bi_eq0 h]; decide))
  refine M_iload_n (pc := 21) C dX8_blockOf_21 rfl ?_
  refine M_iconst (pc := 22) C dX8_blockOf_22 ?_
  refine M_iconst (pc := 23) C dX8_blockOf_23 ?_
  refine A_cS (pc := 24) C (x := vI (Bi (inB y 0 4))) (c_X8_in hT (x := y) (a := 0) (b := 4) (by omega) (by omega) (by omega)) yw_X8_in lk_X8_45 rfl dX8_blockOf_24 rfl (Nat.le_of_ble_eq_true rfl) (by decide) ⟨Nat.le_refl _, Nat.le_refl _⟩ ?_
  refine M_if_eq (pc := 27) C (tgt := 39) (Bi_i32 _) dX8_blockOf_27 (by decide) (fun _ => ?_) (fun h => absurd hb2 (by rw [Bi_ne0 h]; decide))
  refine M_aload_n (pc := 39) C dX8_blockOf_39 rfl (by decide) ?_
  refine M_iconst (pc := 40) C dX8_blockOf_40 ?_
  refine A_cV (pc := 41) C (x := vI 0) (a := 84) (c := 8) (c_X8_fails hT (x := 2) (by decide)) yw_X8_fails lk_X8_81 rfl (congrArg Prod.fst (tt_84 hT)) hc_8 rfl dX8_blockOf_41 rfl (Nat.le_of_ble_eq_true rfl) (by decide) ⟨Nat.le_refl _, Nat.le_refl _⟩ ?_
  refine M.to (v2 := sa v 84 (rs (rs G 13 0) 13 2)) ?_ rfl rfl (by rw [sa_up0])
  exact M_iret (pc := 44) C rfl dX8_blockOf_44 rfl (by rw [rs_rs])
theorem c_X8_blockOf {N : Nat} {T : Ty} {G : Nat → Int} {b w : Nat} {v : Ct} (hT : TT T) (hI : RI (v 85)) (hb : b < 24) (hw : w < 5) : Runs mX8_blockOf 7 0 0 [vR 84, vI ((b : Nat) : Int), vI ((w : Nat) : Int)] N T (sa v 84 G) (some (vI (biF (v 85) b w))) N T (sa v 84 (rs G 13 0)) := by
  have hin : inB ((b : Nat) : Int) 0 23 = true := inB_t (by omega) (by omega)
  have hb2 : inB ((w : Nat) : Int) 0 4 = true := inB_t (by omega) (by omega)
  refine Runs.of (by decide) (Nat.le_of_ble_eq_true rfl) fun κ C => ?_
  refine M_aload_n (pc := 0) C dX8_blockOf_0 rfl (by decide) ?_
  refine M_iconst (pc := 1) C dX8_blockOf_1 ?_
  refine A_putI (pc := 2) C fl_X8_41 rfl (by decide) (a := 84) rfl (tt_84 hT) (by omega) dX8_blockOf_2 ?_
  refine M.to (pc := 5) (v2 := sa v 84 (rs G 13 0)) ?_ rfl rfl (by rw [sa_up0])
  refine M_iload_n (pc := 5) C dX8_blockOf_5 rfl ?_
  refine M_iconst (pc := 6) C dX8_blockOf_6 ?_
  refine M_bipush (pc := 7) C (by decide) dX8_blockOf_7 ?_
  refine A_cS (pc := 9) C (x := vI (Bi (inB ((b : Nat) : Int) 0 23))) (c_X8_in hT (x := ((b : Nat) : Int)) (a := 0) (b := 23) (by omega) (by omega) (by omega)) yw_X8_in lk_X8_45 rfl dX8_blockOf_9 rfl (Nat.le_of_ble_eq_true rfl) (by decide) ⟨Nat.le_refl _, Nat.le_refl _⟩ ?_
  refine M_if_ne (pc := 12) C (tgt := 21) (Bi_i32 _) dX8_blockOf_12 (by decide) (fun _ => ?_) (fun h => absurd hin (by rw [Bi_eq0 h]; decide))
  refine M_iload_n (pc := 21) C dX8_blockOf_21 rfl ?_
  refine M_iconst (pc := 22) C dX8_blockOf_22 ?_
  refine M_iconst (pc := 23) C dX8_blockOf_23 ?_
  refine A_cS (pc := 24) C (x := vI (Bi (inB ((w : Nat) : Int) 0 4))) (c_X8_in hT (x := ((w : Nat) : Int)) (a := 0) (b := 4) (by omega) (by omega) (by omega)) yw_X8_in lk_X8_45 rfl dX8_blockOf_24 rfl (Nat.le_of_ble_eq_true rfl) (by decide) ⟨Nat.le_refl _, Nat.le_refl _⟩ ?_
  refine M_if_eq (pc := 27) C (tgt := 39) (Bi_i32 _) dX8_blockOf_27 (by decide) (fun h => absurd hb2 (by rw [Bi_eq0 h]; decide)) (fun _ => ?_)
  refine M_aload_n (pc := 30) C dX8_blockOf_30 rfl (by decide) ?_
  refine M_iload_n (pc := 31) C dX8_blockOf_31 rfl ?_
  refine M_iload_n (pc := 32) C dX8_blockOf_32 rfl ?_
  refine A_cV (pc := 33) C (x := vI (biF (v 85) b w)) (a := 84) (c := 8) (c_X8_blockIs hT hI (b := b) (w := w) (by omega) (by omega)) yw_X8_blockIs lk_X8_210 rfl (congrArg Prod.fst (tt_84 hT)) hc_8 rfl dX8_blockOf_33 rfl (Nat.le_of_ble_eq_true rfl) (by decide) ⟨Nat.le_refl _, Nat.le_refl _⟩ ?_
  refine M_goto (pc := 36) C (tgt := 44) dX8_blockOf_36 (by decide) ?_
  exact M_iret (pc := 44) C rfl dX8_blockOf_44 rfl rfl
theorem c_X8_count_b {N : Nat} {T : Ty} {G : Nat → Int} {x : Int} {v : Ct} (hT : TT T) (hx : i32 x) (hb : inB x 0 11 = false) : Runs mX8_count 1 0 0 [vR 84, vI x] N T (sa v 84 G) (some (vI 0)) N T (sa v 84 (rs G 13 1)) := by
  refine Runs.of (by decide) (Nat.le_of_ble_eq_true rfl) fun κ C => ?_
  refine M_aload_n (pc := 0) C dX8_count_0 rfl (by decide) ?_
  refine M_iconst (pc := 1) C dX8_count_1 ?_
  refine A_putI (pc := 2) C fl_X8_41 rfl (by decide) (a := 84) rfl (tt_84 hT) (by omega) dX8_count_2 ?_
  refine M.to (pc := 5) (v2 := sa v 84 (rs G 13 0)) ?_ rfl rfl (by rw [sa_up0])
  refine M_iload_n (pc := 5) C dX8_count_5 rfl ?_
  refine M_iconst (pc := 6) C dX8_count_6 ?_
  refine M_bipush (pc := 7) C (by decide) dX8_count_7 ?_
  refine A_cS (pc := 9) C (x := vI (Bi (inB x 0 11))) (c_X8_in hT (x := x) (a := 0) (b := 11) (by omega) (by omega) (by omega)) yw_X8_in lk_X8_45 rfl dX8_count_9 rfl (Nat.le_of_ble_eq_true rfl) (by decide) ⟨Nat.le_refl _, Nat.le_refl _⟩ ?_
  refine M_if_eq (pc := 12) C (tgt := 23) (Bi_i32 _) dX8_count_12 (by decide) (fun _ => ?_) (fun h => absurd hb (by rw [Bi_ne0 h]; decide))
  refine M_aload_n (pc := 23) C dX8_count_23 rfl (by decide) ?_
  refine M_iconst (pc := 24) C dX8_count_24 ?_
  refine A_cV (pc := 25) C (x := vI 0) (a := 84) (c := 8) (c_X8_fails hT (x := 1) (by decide)) yw_X8_fails lk_X8_81 rfl (congrArg Prod.fst (tt_84 hT)) hc_8 rfl dX8_count_25 rfl (Nat.le_of_ble_eq_true rfl) (by decide) ⟨Nat.le_refl _, Nat.le_refl _⟩ ?_
  refine M.to (v2 := sa v 84 (rs (rs G 13 0) 13 1)) ?_ rfl rfl (by rw [sa_up0])
  exact M_iret (pc := 28) C rfl dX8_count_28 rfl (by rw [rs_rs])
theorem c_X8_count {N : Nat} {T : Ty} {G : Nat → Int} {w : Nat} {v : Ct} (hT : TT T) (hI : RI (v 85)) (hw : w < 12) : Runs mX8_count 6 0 0 [vR 84, vI ((w : Nat) : Int)] N T (sa v 84 G) (some (vI (ctF (sa v 84 (rs G 13 0)) w))) N T (sa v 84 (rs G 13 0)) := by
  have hb : inB ((w : Nat) : Int) 0 11 = true := inB_t (by omega) (by omega)
  refine Runs.of (by decide) (Nat.le_of_ble_eq_true rfl) fun κ C => ?_
  refine M_aload_n (pc := 0) C dX8_count_0 rfl (by decide) ?_
  refine M_iconst (pc := 1) C dX8_count_1 ?_
  refine A_putI (pc := 2) C fl_X8_41 rfl (by decide) (a := 84) rfl (tt_84 hT) (by omega) dX8_count_2 ?_
  refine M.to (pc := 5) (v2 := sa v 84 (rs G 13 0)) ?_ rfl rfl (by rw [sa_up0])
  refine M_iload_n (pc := 5) C dX8_count_5 rfl ?_
  refine M_iconst (pc := 6) C dX8_count_6 ?_
  refine M_bipush (pc := 7) C (by decide) dX8_count_7 ?_
  refine A_cS (pc := 9) C (x := vI (Bi (inB ((w : Nat) : Int) 0 11))) (c_X8_in hT (x := ((w : Nat) : Int)) (a := 0) (b := 11) (by omega) (by omega) (by omega)) yw_X8_in lk_X8_45 rfl dX8_count_9 rfl (Nat.le_of_ble_eq_true rfl) (by decide) ⟨Nat.le_refl _, Nat.le_refl _⟩ ?_
  refine M_if_eq (pc := 12) C (tgt := 23) (Bi_i32 _) dX8_count_12 (by decide) (fun h => absurd hb (by rw [Bi_eq0 h]; decide)) (fun _ => ?_)
  refine M_aload_n (pc := 15) C dX8_count_15 rfl (by decide) ?_
  refine M_iload_n (pc := 16) C dX8_count_16 rfl ?_
  refine A_cV (pc := 17) C (x := vI (ctF (sa v 84 (rs G 13 0)) w)) (a := 84) (c := 8) (c_X8_counted hT hI (w := w) (by omega)) yw_X8_counted lk_X8_222 rfl (congrArg Prod.fst (tt_84 hT)) hc_8 rfl dX8_count_17 rfl (Nat.le_of_ble_eq_true rfl) (by decide) ⟨Nat.le_refl _, Nat.le_refl _⟩ ?_
  refine M_goto (pc := 20) C (tgt := 28) dX8_count_20 (by decide) ?_
  exact M_iret (pc := 28) C rfl dX8_count_28 rfl rfl
theorem c_X8_ifPlaced_b {N : Nat} {T : Ty} {G : Nat → Int} {x : Int} {v : Ct} (hT : TT T) (hx : i32 x) (hb : inB x 1 15 = false) : Runs mX8_ifPlaced 1 0 0 [vR 84, vI x] N T (sa v 84 G) (some (vI 0)) N T (sa v 84 (rs G 13 1)) := by
  refine Runs.of (by decide) (Nat.le_of_ble_eq_true rfl) fun κ C => ?_
  refine M_aload_n (pc := 0) C dX8_ifPlaced_0 rfl (by decide) ?_
  refine M_iconst (pc := 1) C dX8_ifPlaced_1 ?_
  refine A_putI (pc := 2) C fl_X8_41 rfl (by decide) (a := 84) rfl (tt_84 hT) (by omega) dX8_ifPlaced_2 ?_
  refine M.to (pc := 5) (v2 := sa v 84 (rs G 13 0)) ?_ rfl rfl (by rw [sa_up0])
  refine M_iload_n (pc := 5) C dX8_ifPlaced_5 rfl ?_
  refine M_iconst (pc := 6) C dX8_ifPlaced_6 ?_
  refine M_bipush (pc := 7) C (by decide) dX8_ifPlaced_7 ?_
  refine A_cS (pc := 9) C (x := vI (Bi (inB x 1 15))) (c_X8_in hT (x := x) (a := 1) (b := 15) (by omega) (by omega) (by omega)) yw_X8_in lk_X8_45 rfl dX8_ifPlaced_9 rfl (Nat.le_of_ble_eq_true rfl) (by decide) ⟨Nat.le_refl _, Nat.le_refl _⟩ ?_
  refine M_if_eq (pc := 12) C (tgt := 23) (Bi_i32 _) dX8_ifPlaced_12 (by decide) (fun _ => ?_) (fun h => absurd hb (by rw [Bi_ne0 h]; decide))
  refine M_aload_n (pc := 23) C dX8_ifPlaced_23 rfl (by decide) ?_
  refine M_iconst (pc := 24) C dX8_ifPlaced_24 ?_
  refine A_cV (pc := 25) C (x := vI 0) (a := 84) (c := 8) (c_X8_fails hT (x := 1) (by decide)) yw_X8_fails lk_X8_81 rfl (congrArg Prod.fst (tt_84 hT)) hc_8 rfl dX8_ifPlaced_25 rfl (Nat.le_of_ble_eq_true rfl) (by decide) ⟨Nat.le_refl _, Nat.le_refl _⟩ ?_
  refine M.to (v2 := sa v 84 (rs (rs G 13 0) 13 1)) ?_ rfl rfl (by rw [sa_up0])
  exact M_iret (pc := 28) C rfl dX8_ifPlaced_28 rfl (by rw [rs_rs])
theorem c_X8_ifPlaced {N : Nat} {T : Ty} {G : Nat → Int} {x : Int} {v : Ct} (hT : TT T) (hI : RI (v 85)) (hx : 1 ≤ x ∧ x ≤ 15) : Runs mX8_ifPlaced 7 0 0 [vR 84, vI x] N T (sa v 84 G) (some (vI (plcF (v 85) x))) N T (sa v 84 (rs G 13 0)) := by
  have hb : inB x 1 15 = true := inB_t (by omega) (by omega)
  refine Runs.of (by decide) (Nat.le_of_ble_eq_true rfl) fun κ C => ?_
  refine M_aload_n (pc := 0) C dX8_ifPlaced_0 rfl (by decide) ?_
  refine M_iconst (pc := 1) C dX8_ifPlaced_1 ?_
  refine A_putI (pc := 2) C fl_X8_41 rfl (by decide) (a := 84) rfl (tt_84 hT) (by omega) dX8_ifPlaced_2 ?_
  refine M.to (pc := 5) (v2 := sa v 84 (rs G 13 0)) ?_ rfl rfl (by rw [sa_up0])
  refine M_iload_n (pc := 5) C dX8_ifPlaced_5 rfl ?_
  refine M_iconst (pc := 6) C dX8_ifPlaced_6 ?_
  refine M_bipush (pc := 7) C (by decide) dX8_ifPlaced_7 ?_
  refine A_cS (pc := 9) C (x := vI (Bi (inB x 1 15))) (c_X8_in hT (x := x) (a := 1) (b := 15) (by omega) (by omega) (by omega)) yw_X8_in lk_X8_45 rfl dX8_ifPlaced_9 rfl (Nat.le_of_ble_eq_true rfl) (by decide) ⟨Nat.le_refl _, Nat.le_refl _⟩ ?_
  refine M_if_eq (pc := 12) C (tgt := 23) (Bi_i32 _) dX8_ifPlaced_12 (by decide) (fun h => absurd hb (by rw [Bi_eq0 h]; decide)) (fun _ => ?_)
  refine M_aload_n (pc := 15) C dX8_ifPlaced_15 rfl (by decide) ?_
  refine M_iload_n (pc := 16) C dX8_ifPlaced_16 rfl ?_
  refine A_cV (pc := 17) C (x := vI (plcF (v 85) x)) (a := 84) (c := 8) (c_X8_placeFor hT hI (x := x) (by omega)) yw_X8_placeFor lk_X8_103 rfl (congrArg Prod.fst (tt_84 hT)) hc_8 rfl dX8_ifPlaced_17 rfl (Nat.le_of_ble_eq_true rfl) (by decide) ⟨Nat.le_refl _, Nat.le_refl _⟩ ?_
  have hp_17 := plcF_bd (v 85) x
  refine M_goto (pc := 20) C (tgt := 28) dX8_ifPlaced_20 (by decide) ?_
  exact M_iret (pc := 28) C rfl dX8_ifPlaced_28 rfl rfl
theorem c_X8_afterGrowing {N : Nat} {T : Ty} {A R : Nat → Int} {f n : Nat} {v : Ct} (hT : TT T) (hI : RI R) (hf : f < 10) (hn : n ≤ 200) : Runs mX8_afterGrowing 9 0 0 [vR 84, vI ((f : Nat) : Int), vI ((n : Nat) : Int)] N T (sa (sa v 88 A) 85 R) (some (vI (opV (gwO R f n)))) N T (sa (sa v 88 (cpA A R 0 0 207)) 85 R) := by
  refine Runs.of (by decide) (Nat.le_of_ble_eq_true rfl) fun κ C => ?_
  refine M_aload_n (pc := 0) C dX8_afterGrowing_0 rfl (by decide) ?_
  refine M_iload_n (pc := 1) C dX8_afterGrowing_1 rfl ?_
  refine M_iload_n (pc := 2) C dX8_afterGrowing_2 rfl ?_
  refine A_cV (pc := 3) C (x := vI (opV (gwO R f n))) (a := 84) (c := 8) (c_X8_grows hT (v := v) (A := A) (R := R) (f := f) (n := n) hI (by omega) (by omega)) yw_X8_grows lk_X8_134 rfl (congrArg Prod.fst (tt_84 hT)) hc_8 rfl dX8_afterGrowing_3 rfl (Nat.le_of_ble_eq_true rfl) (by decide) ⟨Nat.le_refl _, Nat.le_refl _⟩ ?_
  refine M_istore_n (pc := 6) C dX8_afterGrowing_6 (by decide) ?_
  refine M_aload_n (pc := 7) C dX8_afterGrowing_7 rfl (by decide) ?_
  refine A_cVv (pc := 8) C (a := 84) (c := 8) (c_X8_putBack hT (v := v) (A := cpA A R 0 0 207) (R := opR R (gwO R f n))) yw_X8_putBack lk_X8_106 rfl (congrArg Prod.fst (tt_84 hT)) hc_8 rfl dX8_afterGrowing_8 rfl (Nat.le_of_ble_eq_true rfl) (by decide) ⟨Nat.le_refl _, Nat.le_refl _⟩ ?_
  refine M_iload_n (pc := 11) C dX8_afterGrowing_11 rfl ?_
  exact M_iret (pc := 12) C rfl dX8_afterGrowing_12 rfl (by rw [cp_back (fun j hj => gwO_hi hI hf hj)])
theorem c_X8_ifGrown_b1 {N : Nat} {T : Ty} {G : Nat → Int} {x y : Int} {v : Ct} (hT : TT T) (hx : i32 x) (hb : isF (v 85) x = false) : Runs mX8_ifGrown 2 0 0 [vR 84, vI x, vI y] N T (sa v 84 G) (some (vI 0)) N T (sa v 84 (rs G 13 1)) := by
  refine Runs.of (by decide) (Nat.le_of_ble_eq_true rfl) fun κ C => ?_
  refine M_aload_n (pc := 0) C dX8_ifGrown_0 rfl (by decide) ?_
  refine M_iconst (pc := 1) C dX8_ifGrown_1 ?_
  refine A_putI (pc := 2) C fl_X8_41 rfl (by decide) (a := 84) rfl (tt_84 hT) (by omega) dX8_ifGrown_2 ?_
  refine M.to (pc := 5) (v2 := sa v 84 (rs G 13 0)) ?_ rfl rfl (by rw [sa_up0])
  refine M_aload_n (pc := 5) C dX8_ifGrown_5 rfl (by decide) ?_
  refine M_iload_n (pc := 6) C dX8_ifGrown_6 rfl ?_
  refine A_cV (pc := 7) C (x := vI (Bi (isF (v 85) x))) (a := 84) (c := 8) (c_X8_isFile hT (f := x) (by omega)) yw_X8_isFile lk_X8_53 rfl (congrArg Prod.fst (tt_84 hT)) hc_8 rfl dX8_ifGrown_7 rfl (Nat.le_of_ble_eq_true rfl) (by decide) ⟨Nat.le_refl _, Nat.le_refl _⟩ ?_
  refine M_if_ne (pc := 10) C (tgt := 19) (Bi_i32 _) dX8_ifGrown_10 (by decide) (fun h => absurd hb (by rw [Bi_ne0 h]; decide)) (fun _ => ?_)
  refine M_aload_n (pc := 13) C dX8_ifGrown_13 rfl (by decide) ?_
  refine M_iconst (pc := 14) C dX8_ifGrown_14 ?_
  refine A_cV (pc := 15) C (x := vI 0) (a := 84) (c := 8) (c_X8_fails hT (x := 1) (by decide)) yw_X8_fails lk_X8_81 rfl (congrArg Prod.fst (tt_84 hT)) hc_8 rfl dX8_ifGrown_15 rfl (Nat.le_of_ble_eq_true rfl) (by decide) ⟨Nat.le_refl _, Nat.le_refl _⟩ ?_
  refine M.to (v2 := sa v 84 (rs (rs G 13 0) 13 1)) ?_ rfl rfl (by rw [sa_up0])
  exact M_iret (pc := 18) C rfl dX8_ifGrown_18 rfl (by rw [rs_rs])
theorem c_X8_ifGrown_b2 {N : Nat} {T : Ty} {G : Nat → Int} {f : Nat} {y : Int} {v : Ct} (hT : TT T) (hf : f < 10) (hfi : ro (v 85) f 0 = 1) (hy : i32 y) (hb : inB y 1 200 = false) : Runs mX8_ifGrown 2 0 0 [vR 84, vI ((f : Nat) : Int), vI y] N T (sa v 84 G) (some (vI 0)) N T (sa v 84 (rs G 13 2)) := by
  refine Runs.of (by decide) (Nat.le_of_ble_eq_true rfl) fun κ C => ?_
  refine M_aload_n (pc := 0) C dX8_ifGrown_0 rfl (by decide) ?_
  refine M_iconst (pc := 1) C dX8_ifGrown_1 ?_
  refine A_putI (pc := 2) C fl_X8_41 rfl (by decide) (a := 84) rfl (tt_84 hT) (by omega) dX8_ifGrown_2 ?_
  refine M.to (pc := 5) (v2 := sa v 84 (rs G 13 0)) ?_ rfl rfl (by rw [sa_up0])
  refine M_aload_n (pc := 5) C dX8_ifGrown_5 rfl (by decide) ?_
  refine M_iload_n (pc := 6) C dX8_ifGrown_6 rfl ?_
  refine A_cV (pc := 7) C (x := vI (Bi (decide (ro (v 85) f 0 = 1)))) (a := 84) (c := 8) (c_X8_isFile_n hT (f := f) (by omega)) yw_X8_isFile lk_X8_53 rfl (congrArg Prod.fst (tt_84 hT)) hc_8 rfl dX8_ifGrown_7 rfl (Nat.le_of_ble_eq_true rfl) (by decide) ⟨Nat.le_refl _, Nat.le_refl _⟩ ?_
  refine M_if_ne (pc := 10) C (tgt := 19) (Bi_i32 _) dX8_ifGrown_10 (by decide) (fun h_10 => ?_) (fun h_10 => ?_)
  · have b_10 := Bid_ne0 h_10
    refine M_iload_n (pc := 19) C dX8_ifGrown_19 rfl ?_
    refine M_iconst (pc := 20) C dX8_ifGrown_20 ?_
    refine M_sipush (pc := 21) C (by decide) dX8_ifGrown_21 ?_
    refine A_cS (pc := 24) C (x := vI (Bi (inB y 1 200))) (c_X8_in hT (x := y) (a := 1) (b := 200) (by omega) (by omega) (by omega)) yw_X8_in lk_X8_45 rfl dX8_ifGrown_24 rfl (Nat.le_of_ble_eq_true rfl) (by decide) ⟨Nat.le_refl _, Nat.le_refl _⟩ ?_
    refine M_if_eq (pc := 27) C (tgt := 39) (Bi_i32 _) dX8_ifGrown_27 (by decide) (fun _ => ?_) (fun h => absurd hb (by rw [Bi_ne0 h]; decide))
    refine M_aload_n (pc := 39) C dX8_ifGrown_39 rfl (by decide) ?_
    refine M_iconst (pc := 40) C dX8_ifGrown_40 ?_
    refine A_cV (pc := 41) C (x := vI 0) (a := 84) (c := 8) (c_X8_fails hT (x := 2) (by decide)) yw_X8_fails lk_X8_81 rfl (congrArg Prod.fst (tt_84 hT)) hc_8 rfl dX8_ifGrown_41 rfl (Nat.le_of_ble_eq_true rfl) (by decide) ⟨Nat.le_refl _, Nat.le_refl _⟩ ?_
    refine M.to (v2 := sa v 84 (rs (rs G 13 0) 13 2)) ?_ rfl rfl (by rw [sa_up0])
    exact M_iret (pc := 44) C rfl dX8_ifGrown_44 rfl (by rw [rs_rs])
  · have b_10 := Bid_eq0 h_10
    exact absurd hfi b_10
theorem c_X8_ifGrown {N : Nat} {T : Ty} {G A R : Nat → Int} {f n : Nat} {v : Ct} (hT : TT T) (hI : RI R) (hf : f < 10) (hfi : ro R f 0 = 1) (hn1 : 1 ≤ n) (hn : n ≤ 200) : Runs mX8_ifGrown 10 0 0 [vR 84, vI ((f : Nat) : Int), vI ((n : Nat) : Int)] N T (sa (sa (sa v 84 G) 88 A) 85 R) (some (vI (opV (gwO R f n)))) N T (sa (sa (sa v 84 (rs G 13 0)) 88 (cpA A R 0 0 207)) 85 R) := by
  have hb : inB ((n : Nat) : Int) 1 200 = true := inB_t (by omega) (by omega)
  refine Runs.of (by decide) (Nat.le_of_ble_eq_true rfl) fun κ C => ?_
  refine M_aload_n (pc := 0) C dX8_ifGrown_0 rfl (by decide) ?_
  refine M_iconst (pc := 1) C dX8_ifGrown_1 ?_
  refine A_putI (pc := 2) C fl_X8_41 rfl (by decide) (a := 84) rfl (tt_84 hT) (by omega) dX8_ifGrown_2 ?_
  refine M.to (pc := 5) (v2 := sa (sa (sa v 84 (rs G 13 0)) 88 A) 85 R) ?_ rfl rfl (by rw [sa_up1 (by decide), sa_up1 (by decide), sa_up0])
  refine M_aload_n (pc := 5) C dX8_ifGrown_5 rfl (by decide) ?_
  refine M_iload_n (pc := 6) C dX8_ifGrown_6 rfl ?_
  refine A_cV (pc := 7) C (x := vI (Bi (decide (ro R f 0 = 1)))) (a := 84) (c := 8) (c_X8_isFile_n hT (f := f) (by omega)) yw_X8_isFile lk_X8_53 rfl (congrArg Prod.fst (tt_84 hT)) hc_8 rfl dX8_ifGrown_7 rfl (Nat.le_of_ble_eq_true rfl) (by decide) ⟨Nat.le_refl _, Nat.le_refl _⟩ ?_
  refine M_if_ne (pc := 10) C (tgt := 19) (Bi_i32 _) dX8_ifGrown_10 (by decide) (fun h_10 => ?_) (fun h_10 => ?_)
  · have b_10 := Bid_ne0 h_10
    refine M_iload_n (pc := 19) C dX8_ifGrown_19 rfl ?_
    refine M_iconst (pc := 20) C dX8_ifGrown_20 ?_
    refine M_sipush (pc := 21) C (by decide) dX8_ifGrown_21 ?_
    refine A_cS (pc := 24) C (x := vI (Bi (inB ((n : Nat) : Int) 1 200))) (c_X8_in hT (x := ((n : Nat) : Int)) (a := 1) (b := 200) (by omega) (by omega) (by omega)) yw_X8_in lk_X8_45 rfl dX8_ifGrown_24 rfl (Nat.le_of_ble_eq_true rfl) (by decide) ⟨Nat.le_refl _, Nat.le_refl _⟩ ?_
    refine M_if_eq (pc := 27) C (tgt := 39) (Bi_i32 _) dX8_ifGrown_27 (by decide) (fun h => absurd hb (by rw [Bi_eq0 h]; decide)) (fun _ => ?_)
    refine M_aload_n (pc := 30) C dX8_ifGrown_30 rfl (by decide) ?_
    refine M_iload_n (pc := 31) C dX8_ifGrown_31 rfl ?_
    refine M_iload_n (pc := 32) C dX8_ifGrown_32 rfl ?_
    refine A_cV (pc := 33) C (x := vI (opV (gwO R f n))) (a := 84) (c := 8) (c_X8_afterGrowing hT (v := sa v 84 (rs G 13 0)) (A := A) (R := R) (f := f) (n := n) hI (by omega) (by omega)) yw_X8_afterGrowing lk_X8_225 rfl (congrArg Prod.fst (tt_84 hT)) hc_8 rfl dX8_ifGrown_33 rfl (Nat.le_of_ble_eq_true rfl) (by decide) ⟨Nat.le_refl _, Nat.le_refl _⟩ ?_
    refine M_goto (pc := 36) C (tgt := 44) dX8_ifGrown_36 (by decide) ?_
    exact M_iret (pc := 44) C rfl dX8_ifGrown_44 rfl rfl
  · have b_10 := Bid_eq0 h_10
    exact absurd hfi b_10
theorem c_X8_greatest {N : Nat} {T : Ty} {G : Nat → Int}  {v : Ct} (hT : TT T) (hI : RI (v 85)) : Runs mX8_greatest 8 0 0 [vR 84] N T (sa v 84 G) (some (vI (grF (v 85)))) N T (sa v 84 (rs G 13 0)) := by
  refine Runs.of (by decide) (Nat.le_of_ble_eq_true rfl) fun κ C => ?_
  refine M_aload_n (pc := 0) C dX8_greatest_0 rfl (by decide) ?_
  refine M_iconst (pc := 1) C dX8_greatest_1 ?_
  refine A_putI (pc := 2) C fl_X8_41 rfl (by decide) (a := 84) rfl (tt_84 hT) (by omega) dX8_greatest_2 ?_
  refine M.to (pc := 5) (v2 := sa v 84 (rs G 13 0)) ?_ rfl rfl (by rw [sa_up0])
  refine M_aload_n (pc := 5) C dX8_greatest_5 rfl (by decide) ?_
  refine A_cV (pc := 6) C (x := vI (grF (v 85))) (a := 84) (c := 8) (c_X8_greatestSize hT hI) yw_X8_greatestSize lk_X8_231 rfl (congrArg Prod.fst (tt_84 hT)) hc_8 rfl dX8_greatest_6 rfl (Nat.le_of_ble_eq_true rfl) (by decide) ⟨Nat.le_refl _, Nat.le_refl _⟩ ?_
  exact M_iret (pc := 9) C rfl dX8_greatest_9 rfl rfl
theorem c_X8_weakest {N : Nat} {T : Ty} {G : Nat → Int}  {v : Ct} (hT : TT T) (hI : RI (v 85)) : Runs mX8_weakest 5 0 0 [vR 84] N T (sa v 84 G) (some (vI ((wkN (wkB (v 85)) 24).1))) N T (sa v 84 (rs G 13 0)) := by
  refine Runs.of (by decide) (Nat.le_of_ble_eq_true rfl) fun κ C => ?_
  refine M_aload_n (pc := 0) C dX8_weakest_0 rfl (by decide) ?_
  refine M_iconst (pc := 1) C dX8_weakest_1 ?_
  refine A_putI (pc := 2) C fl_X8_41 rfl (by decide) (a := 84) rfl (tt_84 hT) (by omega) dX8_weakest_2 ?_
  refine M.to (pc := 5) (v2 := sa v 84 (rs G 13 0)) ?_ rfl rfl (by rw [sa_up0])
  refine M_aload_n (pc := 5) C dX8_weakest_5 rfl (by decide) ?_
  refine A_cV (pc := 6) C (x := vI ((wkN (wkB (v 85)) 24).1)) (a := 84) (c := 8) (c_X8_weakestBlock hT hI) yw_X8_weakestBlock lk_X8_240 rfl (congrArg Prod.fst (tt_84 hT)) hc_8 rfl dX8_weakest_6 rfl (Nat.le_of_ble_eq_true rfl) (by decide) ⟨Nat.le_refl _, Nat.le_refl _⟩ ?_
  exact M_iret (pc := 9) C rfl dX8_weakest_9 rfl rfl
theorem c_X8_afterPacking {N : Nat} {T : Ty} {F O A R : Nat → Int} {v : Ct} (hT : TT T) (hI : RI R) : RunsP mX8_afterPacking 6 0 0 [vR 84] N T (sa (sa (sa (sa v 94 F) 93 O) 88 A) 85 R) N T (fun r1 v1 => ∃ F2, r1 = some (vI (pkV R)) ∧ v1 = sa (sa (sa (sa v 94 F2) 93 (wrO O (srL R 150))) 88 (cpA A R 0 0 207)) 85 R) := by
  refine RunsP.of (by decide) (Nat.le_of_ble_eq_true rfl) fun κ C => ?_
  refine M_aload_n (pc := 0) C dX8_afterPacking_0 rfl (by decide) ?_
  refine A_pV (pc := 1) C (a := 84) (c := 8) (c_X8_packs hT (v := v) (F := F) (O := O) (A := A) (R := R) hI) yw_X8_packs lk_X8_161 rfl (congrArg Prod.fst (tt_84 hT)) hc_8 rfl dX8_afterPacking_1 rfl (Nat.le_of_ble_eq_true rfl) (by decide) ⟨Nat.le_refl _, Nat.le_refl _⟩ (fun r_1 v_1 p_1 => ?_)
  obtain ⟨F_1, rfl, rfl⟩ := p_1
  refine M.to (pc := 4) (st2 := [vI (pkV R)]) (v2 := sa (sa (sa (sa v 94 F_1) 93 (wrO O (srL R 150))) 88 (cpA A R 0 0 207)) 85 (pkRR R)) ?_ rfl rfl rfl
  refine M_istore_n (pc := 4) C dX8_afterPacking_4 (by decide) ?_
  refine M_aload_n (pc := 5) C dX8_afterPacking_5 rfl (by decide) ?_
  refine A_cVv (pc := 6) C (a := 84) (c := 8) (c_X8_putBack hT (v := sa (sa v 94 F_1) 93 (wrO O (srL R 150))) (A := cpA A R 0 0 207) (R := pkRR R)) yw_X8_putBack lk_X8_106 rfl (congrArg Prod.fst (tt_84 hT)) hc_8 rfl dX8_afterPacking_6 rfl (Nat.le_of_ble_eq_true rfl) (by decide) ⟨Nat.le_refl _, Nat.le_refl _⟩ ?_
  refine M_iload_n (pc := 9) C dX8_afterPacking_9 rfl ?_
  exact M_iretP (pc := 10) C rfl dX8_afterPacking_10 ⟨F_1, rfl, by rw [cp_back (fun j hj => pkRR_hi hj)]⟩
theorem c_X8_ifPacked {N : Nat} {T : Ty} {G F O A R : Nat → Int} {v : Ct} (hT : TT T) (hI : RI R) : RunsP mX8_ifPacked 7 0 0 [vR 84] N T (sa (sa (sa (sa (sa v 84 G) 94 F) 93 O) 88 A) 85 R) N T (fun r1 v1 => ∃ F2, r1 = some (vI (pkV R)) ∧ v1 = sa (sa (sa (sa (sa v 84 (rs G 13 0)) 94 F2) 93 (wrO O (srL R 150))) 88 (cpA A R 0 0 207)) 85 R) := by
  refine RunsP.of (by decide) (Nat.le_of_ble_eq_true rfl) fun κ C => ?_
  refine M_aload_n (pc := 0) C dX8_ifPacked_0 rfl (by decide) ?_
  refine M_iconst (pc := 1) C dX8_ifPacked_1 ?_
  refine A_putI (pc := 2) C fl_X8_41 rfl (by decide) (a := 84) rfl (tt_84 hT) (by omega) dX8_ifPacked_2 ?_
  refine M.to (pc := 5) (v2 := sa (sa (sa (sa (sa v 84 (rs G 13 0)) 94 F) 93 O) 88 A) 85 R) ?_ rfl rfl (by rw [sa_up1 (by decide), sa_up1 (by decide), sa_up1 (by decide), sa_up1 (by decide), sa_up0])
  refine M_aload_n (pc := 5) C dX8_ifPacked_5 rfl (by decide) ?_
  refine A_pV (pc := 6) C (a := 84) (c := 8) (c_X8_afterPacking hT (v := sa v 84 (rs G 13 0)) (F := F) (O := O) (A := A) (R := R) hI) yw_X8_afterPacking lk_X8_237 rfl (congrArg Prod.fst (tt_84 hT)) hc_8 rfl dX8_ifPacked_6 rfl (Nat.le_of_ble_eq_true rfl) (by decide) ⟨Nat.le_refl _, Nat.le_refl _⟩ (fun r_6 v_6 p_6 => ?_)
  obtain ⟨F_6, rfl, rfl⟩ := p_6
  refine M.to (pc := 9) (st2 := [vI (pkV R)]) (v2 := sa (sa (sa (sa (sa v 84 (rs G 13 0)) 94 F_6) 93 (wrO O (srL R 150))) 88 (cpA A R 0 0 207)) 85 R) ?_ rfl rfl rfl
  exact M_iretP (pc := 9) C rfl dX8_ifPacked_9 ⟨F_6, rfl, rfl⟩
theorem c_X8_fewestBlocks {N : Nat} {T : Ty} {B F O A R : Nat → Int} {v : Ct} (hT : TT T) (hI : RI R) : RunsP mX8_fewestBlocks 4 0 0 [vR 84] N T (sa (sa (sa (sa (sa v 92 B) 94 F) 93 O) 88 A) 85 R) N T (fun r1 v1 => ∃ B2, r1 = some (vI (fbF R B)) ∧ v1 = sa (sa (sa (sa (sa v 92 B2) 94 F) 93 (wrO O (srL R 150))) 88 A) 85 R) := by
  have hpw := pow_le (srL_len R 150)
  refine RunsP.of (by decide) (Nat.le_of_ble_eq_true rfl) fun κ C => ?_
  refine M_aload_n (pc := 0) C dX8_fewestBlocks_0 rfl (by decide) ?_
  refine A_cV (pc := 1) C (x := vI (((srL R 150).length : Nat) : Int)) (a := 84) (c := 8) (c_X8_sort hT (v := sa v 92 B) (F := F) (O := O) (A := A) (R := R) hI) yw_X8_sort lk_X8_152 rfl (congrArg Prod.fst (tt_84 hT)) hc_8 rfl dX8_fewestBlocks_1 rfl (Nat.le_of_ble_eq_true rfl) (by decide) ⟨Nat.le_refl _, Nat.le_refl _⟩ ?_
  have hsl_1 := srL_len R 150
  refine M_istore_n (pc := 4) C dX8_fewestBlocks_4 (by decide) ?_
  refine M_aload_n (pc := 5) C dX8_fewestBlocks_5 rfl (by decide) ?_
  refine A_getR (pc := 6) C fl_X8_32 rfl (a := 84) (j := 92) rfl (tt_84 hT) rfl dX8_fewestBlocks_6 ?_
  refine M_iconst (pc := 9) C dX8_fewestBlocks_9 ?_
  refine M_bipush (pc := 10) C (by decide) dX8_fewestBlocks_10 ?_
  refine A_iast (pc := 12) C (a := 92) (q := 0) rfl (tt_92 hT) (by decide) rfl (by omega) (by omega) dX8_fewestBlocks_12 ?_
  refine M.to (pc := 13) (v2 := sa (sa (sa (sa (sa v 92 (rs B 0 16)) 94 F) 93 (wrO O (srL R 150))) 88 A) 85 R) ?_ rfl rfl (by rw [sa_up1 (by decide), sa_up1 (by decide), sa_up1 (by decide), sa_up1 (by decide), sa_up0])
  refine M_iconst (pc := 13) C dX8_fewestBlocks_13 ?_
  refine M_istore_n (pc := 14) C dX8_fewestBlocks_14 (by decide) ?_
  refine loop_le (P := fun i => M κ N T 15 [some (vR 84), some (vI (((srL R 150).length : Nat) : Int)), some (vI ((i + 1 : Nat) : Int)), none, none, none, none] [] (sa (sa (sa (sa (sa v 92 (fbN B (tlT R) (srL R 150).length i)) 94 F) 93 (wrO O (srL R 150))) 88 A) 85 R) 0 0 (QP κ N T (fun r1 v1 => ∃ B2, r1 = some (vI (fbF R B)) ∧ v1 = sa (sa (sa (sa (sa v 92 B2) 94 F) 93 (wrO O (srL R 150))) 88 A) 85 R) 0 0)) (2 ^ (srL R 150).length - 1) (fun i hi ih => ?_)
  have hbb := fbN_bd (B := B) (n := (srL R 150).length) (fun k => (tlT_bd R k).1) i
  refine M_iload_n (pc := 15) C dX8_fewestBlocks_15 rfl ?_
  refine M_iconst (pc := 16) C dX8_fewestBlocks_16 ?_
  refine M_iload_n (pc := 17) C dX8_fewestBlocks_17 rfl ?_
  refine M_ishl (pc := 18) C (by omega) dX8_fewestBlocks_18 ?_
  refine M.to (st2 := [vI ((2 ^ (srL R 150).length : Nat) : Int), vI ((i + 1 : Nat) : Int)]) ?_ rfl (by rw [Int.one_mul, Int.toNat_natCast]; push_cast; rfl) rfl
  refine M_icmp_ge (pc := 19) C (tgt := 147) (by omega) (by omega) dX8_fewestBlocks_19 (by decide) (fun h_19 => ?_) (fun h_19 => ?_)
  · refine M_aload_n (pc := 147) C dX8_fewestBlocks_147 rfl (by decide) ?_
    refine A_getR (pc := 148) C fl_X8_32 rfl (a := 84) (j := 92) rfl (tt_84 hT) rfl dX8_fewestBlocks_148 ?_
    refine M_iconst (pc := 151) C dX8_fewestBlocks_151 ?_
    refine M_iload_n (pc := 152) C dX8_fewestBlocks_152 rfl ?_
    refine M_ishl (pc := 153) C (by omega) dX8_fewestBlocks_153 ?_
    refine M_iconst (pc := 154) C dX8_fewestBlocks_154 ?_
    refine M_isub (pc := 155) C dX8_fewestBlocks_155 ?_
    have hie : i = 2 ^ (srL R 150).length - 1 := by omega
    refine M.to (st2 := [vI ((2 ^ (srL R 150).length - 1 : Nat) : Int), vR 92]) ?_ rfl (by rw [Int.one_mul, Int.toNat_natCast, show (2 : Int) ^ (srL R 150).length - 1 = ((2 ^ (srL R 150).length - 1 : Nat) : Int) by rw [show ((2 : Int) ^ (srL R 150).length) = ((2 ^ (srL R 150).length : Nat) : Int) by push_cast; rfl]; omega]) rfl
    refine A_iald (pc := 156) C (a := 92) (q := (2 ^ (srL R 150).length - 1)) rfl (tt_92 hT) (by decide) rfl (by omega) dX8_fewestBlocks_156 (fun (r_156 : i32 ((fbN B (tlT R) (srL R 150).length i) (2 ^ (srL R 150).length - 1))) => ?_)
    refine M.to (pc := 157) (st2 := [vI ((fbN B (tlT R) (srL R 150).length i) (2 ^ (srL R 150).length - 1))]) ?_ rfl rfl rfl
    have hbf := hbb (2 ^ (srL R 150).length - 1) (by omega)
    refine M_bipush (pc := 157) C (by decide) dX8_fewestBlocks_157 ?_
    refine M_idiv (pc := 159) C (by omega) (by decide) dX8_fewestBlocks_159 ?_
    exact M_iretP (pc := 160) C rfl dX8_fewestBlocks_160 ⟨_, by unfold fbF; rw [hie], rfl⟩
  · refine M_aload_n (pc := 22) C dX8_fewestBlocks_22 rfl (by decide) ?_
    refine A_getR (pc := 23) C fl_X8_32 rfl (a := 84) (j := 92) rfl (tt_84 hT) rfl dX8_fewestBlocks_23 ?_
    refine M_iload_n (pc := 26) C dX8_fewestBlocks_26 rfl ?_
    refine M_sipush (pc := 27) C (by decide) dX8_fewestBlocks_27 ?_
    refine A_iast (pc := 30) C (a := 92) (q := (i + 1)) rfl (tt_92 hT) (by decide) (by omega) (by omega) (by omega) dX8_fewestBlocks_30 ?_
    refine M.to (pc := 31) (v2 := sa (sa (sa (sa (sa v 92 (rs (fbN B (tlT R) (srL R 150).length i) (i + 1) 1024)) 94 F) 93 (wrO O (srL R 150))) 88 A) 85 R) ?_ rfl rfl (by rw [sa_up1 (by decide), sa_up1 (by decide), sa_up1 (by decide), sa_up1 (by decide), sa_up0])
    refine M_iconst (pc := 31) C dX8_fewestBlocks_31 ?_
    refine M_istore_n (pc := 32) C dX8_fewestBlocks_32 (by decide) ?_
    refine loop_le (P := fun k => M κ N T 33 [some (vR 84), some (vI (((srL R 150).length : Nat) : Int)), some (vI ((i + 1 : Nat) : Int)), some (vI ((k : Nat) : Int)), none, none, none] [] (sa (sa (sa (sa (sa v 92 (rs (fbN B (tlT R) (srL R 150).length i) (i + 1) (fbM (fbN B (tlT R) (srL R 150).length i) (tlT R) (i + 1) k))) 94 F) 93 (wrO O (srL R 150))) 88 A) 85 R) 0 0 (QP κ N T (fun r1 v1 => ∃ B2, r1 = some (vI (fbF R B)) ∧ v1 = sa (sa (sa (sa (sa v 92 B2) 94 F) 93 (wrO O (srL R 150))) 88 A) 85 R) 0 0)) ((srL R 150).length) (fun k hk ihk => ?_)
    have hpk : 0 < 2 ^ k := Nat.two_pow_pos k
    have hm := fbM_bd (B := fbN B (tlT R) (srL R 150).length i) (T := tlT R) (s := i + 1) (fun q hq => (hbb q (by omega)).1) (fun k => (tlT_bd R k).1) k
    have htb := tlT_bd R k
    refine M_iload_n (pc := 33) C dX8_fewestBlocks_33 rfl ?_
    refine M_iload_n (pc := 34) C dX8_fewestBlocks_34 rfl ?_
    refine M_icmp_ge (pc := 35) C (tgt := 141) (by omega) (by omega) dX8_fewestBlocks_35 (by decide) (fun h_35 => ?_) (fun h_35 => ?_)
    · refine M_iinc (pc := 141) C dX8_fewestBlocks_141 rfl (by decide) ?_
      refine M_goto (pc := 144) C (tgt := 15) dX8_fewestBlocks_144 (by decide) ?_
      refine M.drop [true, true, true, false, true, true, true] rfl ?_
      have hkn : k = (srL R 150).length := by omega
      subst hkn
      exact M.to (ih (by omega)) rfl rfl rfl
    · refine M_iload_n (pc := 38) C dX8_fewestBlocks_38 rfl ?_
      refine M_iload_n (pc := 39) C dX8_fewestBlocks_39 rfl ?_
      refine M_ishr (pc := 40) C (by omega) (by omega) dX8_fewestBlocks_40 ?_
      refine M_iconst (pc := 41) C dX8_fewestBlocks_41 ?_
      refine M_imask (pc := 42) C 1 (by decide) (by decide) dX8_fewestBlocks_42 ?_
      refine M_iconst (pc := 43) C dX8_fewestBlocks_43 ?_
      refine M.to (st2 := [vI 1, vI (((i + 1) / 2 ^ k % 2 : Nat) : Int)]) ?_ rfl (by rw [Int.toNat_natCast]; push_cast; rfl) rfl
      refine M_icmp_ne (pc := 44) C (tgt := 135) (by omega) (by omega) dX8_fewestBlocks_44 (by decide) (fun h_44 => ?_) (fun h_44 => ?_)
      · have hbit : ¬ (i + 1) / 2 ^ k % 2 = 1 := by omega
        refine M_iinc (pc := 135) C dX8_fewestBlocks_135 rfl (by decide) ?_
        refine M_goto (pc := 138) C (tgt := 33) dX8_fewestBlocks_138 (by decide) ?_
        exact M.to (ihk (by omega)) rfl rfl (by first | (rw [fbM_f hbit]) | (rw [fbM_t hbit hlt2, rs_rs]; rfl) | (rw [fbM_e hbit hlt2, rs_rs]; rfl) | (rw [fbM_t hbit hlt2, rs_rs]; done) | (rw [fbM_e hbit hlt2, rs_rs]; done) | (rw [fbM_e hbit hlt2, rs_rs, rs_eq]) | (rw [fbM_e hbit hlt2, rs_eq, rs_rs]))
      · have hbit : (i + 1) / 2 ^ k % 2 = 1 := by omega
        have hle := bit_le hbit
        have hkl : k < (srL R 150).length := by omega
        obtain ⟨f, hf0⟩ : ∃ f, f = (srL R 150).getD k 0 := ⟨_, rfl⟩
        have hf : f < 10 := by rw [hf0]; exact getD_lt (fun x hx => (srL_in hx).1) k
        have hO : (wrO O (srL R 150)) k = (f : Int) := by unfold wrO; rw [if_pos hkl, hf0]
        refine M_aload_n (pc := 47) C dX8_fewestBlocks_47 rfl (by decide) ?_
        refine A_getR (pc := 48) C fl_X8_32 rfl (a := 84) (j := 92) rfl (tt_84 hT) rfl dX8_fewestBlocks_48 ?_
        refine M_iload_n (pc := 51) C dX8_fewestBlocks_51 rfl ?_
        refine M_iconst (pc := 52) C dX8_fewestBlocks_52 ?_
        refine M_iload_n (pc := 53) C dX8_fewestBlocks_53 rfl ?_
        refine M_ishl (pc := 54) C (by omega) dX8_fewestBlocks_54 ?_
        refine M_isub (pc := 55) C dX8_fewestBlocks_55 ?_
        refine M.to (st2 := [vI ((i + 1 - 2 ^ k : Nat) : Int), vR 92]) ?_ rfl (by rw [Int.one_mul, Int.toNat_natCast, show ((i + 1 : Nat) : Int) - 2 ^ k = ((i + 1 - 2 ^ k : Nat) : Int) by rw [show ((2 : Int) ^ k) = ((2 ^ k : Nat) : Int) by push_cast; rfl]; omega]) rfl
        refine A_iald (pc := 56) C (a := 92) (q := (i + 1 - 2 ^ k)) rfl (tt_92 hT) (by decide) rfl (by omega) dX8_fewestBlocks_56 (fun (r_56 : i32 ((rs (fbN B (tlT R) (srL R 150).length i) (i + 1) (fbM (fbN B (tlT R) (srL R 150).length i) (tlT R) (i + 1) k)) (i + 1 - 2 ^ k))) => ?_)
        refine M.to (pc := 57) (st2 := [vI ((rs (fbN B (tlT R) (srL R 150).length i) (i + 1) (fbM (fbN B (tlT R) (srL R 150).length i) (tlT R) (i + 1) k)) (i + 1 - 2 ^ k))]) ?_ rfl rfl rfl
        have hb0 : (rs (fbN B (tlT R) (srL R 150).length i) (i + 1) (fbM (fbN B (tlT R) (srL R 150).length i) (tlT R) (i + 1) k)) (i + 1 - 2 ^ k) = fbN B (tlT R) (srL R 150).length i (i + 1 - 2 ^ k) := rs_ne (by omega) _
        have hb1 := hbb (i + 1 - 2 ^ k) (by omega)
        refine M.to (st2 := [vI (fbN B (tlT R) (srL R 150).length i (i + 1 - 2 ^ k))]) ?_ rfl (by rw [hb0]) rfl
        refine M_istore (pc := 57) C dX8_fewestBlocks_57 (by decide) ?_
        refine M_aload_n (pc := 59) C dX8_fewestBlocks_59 rfl (by decide) ?_
        refine M_aload_n (pc := 60) C dX8_fewestBlocks_60 rfl (by decide) ?_
        refine A_getR (pc := 61) C fl_X8_35 rfl (a := 84) (j := 93) rfl (tt_84 hT) rfl dX8_fewestBlocks_61 ?_
        refine M_iload_n (pc := 64) C dX8_fewestBlocks_64 rfl ?_
        refine A_iald (pc := 65) C (a := 93) (q := k) rfl (tt_93 hT) (by decide) rfl (by omega) dX8_fewestBlocks_65 (fun (r_65 : i32 ((wrO O (srL R 150)) k)) => ?_)
        refine M.to (pc := 66) (st2 := [vI ((wrO O (srL R 150)) k), vR 84]) ?_ rfl rfl rfl
        refine M.to (st2 := [vI ((f : Nat) : Int), vR 84]) ?_ rfl (by rw [hO]) rfl
        refine A_cV (pc := 66) C (x := vI (ro R f 1 % 16)) (a := 84) (c := 8) (c_X8_tailOf hT hI (f := f) (by omega)) yw_X8_tailOf lk_X8_57 rfl (congrArg Prod.fst (tt_84 hT)) hc_8 rfl dX8_fewestBlocks_66 rfl (Nat.le_of_ble_eq_true rfl) (by decide) ⟨Nat.le_refl _, Nat.le_refl _⟩ ?_
        refine M.to (st2 := [vI (tlT R k)]) ?_ rfl (by rw [hf0]; rfl) rfl
        refine M_istore (pc := 69) C dX8_fewestBlocks_69 (by decide) ?_
        refine M_iload (pc := 71) C dX8_fewestBlocks_71 rfl ?_
        refine M_bipush (pc := 73) C (by decide) dX8_fewestBlocks_73 ?_
        refine M_irem (pc := 75) C (by omega) (by decide) dX8_fewestBlocks_75 ?_
        refine M_iload (pc := 76) C dX8_fewestBlocks_76 rfl ?_
        refine M_iadd (pc := 78) C dX8_fewestBlocks_78 ?_
        refine M_bipush (pc := 79) C (by decide) dX8_fewestBlocks_79 ?_
        refine M_icmp_gt (pc := 81) C (tgt := 92) (by omega) (by omega) dX8_fewestBlocks_81 (by decide) (fun h_81 => ?_) (fun h_81 => ?_)
        · refine M_bipush (pc := 92) C (by decide) dX8_fewestBlocks_92 ?_
          refine M_iload (pc := 94) C dX8_fewestBlocks_94 rfl ?_
          refine M_bipush (pc := 96) C (by decide) dX8_fewestBlocks_96 ?_
          refine M_idiv (pc := 98) C (by omega) (by decide) dX8_fewestBlocks_98 ?_
          refine M_iconst (pc := 99) C dX8_fewestBlocks_99 ?_
          refine M_iadd (pc := 100) C dX8_fewestBlocks_100 ?_
          refine M_imul (pc := 101) C dX8_fewestBlocks_101 ?_
          refine M_iload (pc := 102) C dX8_fewestBlocks_102 rfl ?_
          refine M_iadd (pc := 104) C dX8_fewestBlocks_104 ?_
          refine M.to (st2 := [vI (fnx (fbN B (tlT R) (srL R 150).length i (i + 1 - 2 ^ k)) (tlT R k))]) ?_ rfl (by unfold fnx; first | (rw [if_pos (by omega)]; done) | (rw [if_neg (by omega)]; done)) rfl
          have hfx : 0 ≤ fnx (fbN B (tlT R) (srL R 150).length i (i + 1 - 2 ^ k)) (tlT R k) ∧ fnx (fbN B (tlT R) (srL R 150).length i (i + 1 - 2 ^ k)) (tlT R k) ≤ 2048 := by unfold fnx; split <;> omega
          refine M_istore (pc := 105) C dX8_fewestBlocks_105 (by decide) ?_
          refine M_aload_n (pc := 107) C dX8_fewestBlocks_107 rfl (by decide) ?_
          refine A_getR (pc := 108) C fl_X8_32 rfl (a := 84) (j := 92) rfl (tt_84 hT) rfl dX8_fewestBlocks_108 ?_
          refine M_iload_n (pc := 111) C dX8_fewestBlocks_111 rfl ?_
          refine M_iload (pc := 112) C dX8_fewestBlocks_112 rfl ?_
          refine M_aload_n (pc := 114) C dX8_fewestBlocks_114 rfl (by decide) ?_
          refine A_getR (pc := 115) C fl_X8_32 rfl (a := 84) (j := 92) rfl (tt_84 hT) rfl dX8_fewestBlocks_115 ?_
          refine M_iload_n (pc := 118) C dX8_fewestBlocks_118 rfl ?_
          refine A_iald (pc := 119) C (a := 92) (q := (i + 1)) rfl (tt_92 hT) (by decide) (by omega) (by omega) dX8_fewestBlocks_119 (fun (r_119 : i32 ((rs (fbN B (tlT R) (srL R 150).length i) (i + 1) (fbM (fbN B (tlT R) (srL R 150).length i) (tlT R) (i + 1) k)) (i + 1))) => ?_)
          refine M.to (pc := 120) (st2 := [vI ((rs (fbN B (tlT R) (srL R 150).length i) (i + 1) (fbM (fbN B (tlT R) (srL R 150).length i) (tlT R) (i + 1) k)) (i + 1)), vI (fnx (fbN B (tlT R) (srL R 150).length i (i + 1 - 2 ^ k)) (tlT R k)), vI ((i + 1 : Nat) : Int), vR 92]) ?_ rfl rfl rfl
          have hr0 : (rs (fbN B (tlT R) (srL R 150).length i) (i + 1) (fbM (fbN B (tlT R) (srL R 150).length i) (tlT R) (i + 1) k)) (i + 1) = fbM (fbN B (tlT R) (srL R 150).length i) (tlT R) (i + 1) k := rs_eq _ _ _
          refine M_icmp_ge (pc := 120) C (tgt := 128) (by omega) (by omega) dX8_fewestBlocks_120 (by decide) (fun h_120 => ?_) (fun h_120 => ?_)
          · have hlt2 : ¬ fnx (fbN B (tlT R) (srL R 150).length i (i + 1 - 2 ^ k)) (tlT R k) < fbM (fbN B (tlT R) (srL R 150).length i) (tlT R) (i + 1) k := by omega
            refine M_aload_n (pc := 128) C dX8_fewestBlocks_128 rfl (by decide) ?_
            refine A_getR (pc := 129) C fl_X8_32 rfl (a := 84) (j := 92) rfl (tt_84 hT) rfl dX8_fewestBlocks_129 ?_
            refine M_iload_n (pc := 132) C dX8_fewestBlocks_132 rfl ?_
            refine A_iald (pc := 133) C (a := 92) (q := (i + 1)) rfl (tt_92 hT) (by decide) (by omega) (by omega) dX8_fewestBlocks_133 (fun (r_133 : i32 ((rs (fbN B (tlT R) (srL R 150).length i) (i + 1) (fbM (fbN B (tlT R) (srL R 150).length i) (tlT R) (i + 1) k)) (i + 1))) => ?_)
            refine M.to (pc := 134) (st2 := [vI ((rs (fbN B (tlT R) (srL R 150).length i) (i + 1) (fbM (fbN B (tlT R) (srL R 150).length i) (tlT R) (i + 1) k)) (i + 1)), vI ((i + 1 : Nat) : Int), vR 92]) ?_ rfl rfl rfl
            refine A_iast (pc := 134) C (a := 92) (q := (i + 1)) rfl (tt_92 hT) (by decide) (by omega) (by omega) (by omega) dX8_fewestBlocks_134 ?_
            refine M.to (pc := 135) (v2 := sa (sa (sa (sa (sa v 92 (rs (rs (fbN B (tlT R) (srL R 150).length i) (i + 1) (fbM (fbN B (tlT R) (srL R 150).length i) (tlT R) (i + 1) k)) (i + 1) ((rs (fbN B (tlT R) (srL R 150).length i) (i + 1) (fbM (fbN B (tlT R) (srL R 150).length i) (tlT R) (i + 1) k)) (i + 1)))) 94 F) 93 (wrO O (srL R 150))) 88 A) 85 R) ?_ rfl rfl (by rw [sa_up1 (by decide), sa_up1 (by decide), sa_up1 (by decide), sa_up1 (by decide), sa_up0])
            refine M_iinc (pc := 135) C dX8_fewestBlocks_135 rfl (by decide) ?_
            refine M_goto (pc := 138) C (tgt := 33) dX8_fewestBlocks_138 (by decide) ?_
            refine M.drop [true, true, true, true, false, false, false] rfl ?_
            exact M.to (ihk (by omega)) rfl rfl (by first | (rw [fbM_f hbit]) | (rw [fbM_t hbit hlt2, rs_rs]; rfl) | (rw [fbM_e hbit hlt2, rs_rs]; rfl) | (rw [fbM_t hbit hlt2, rs_rs]; done) | (rw [fbM_e hbit hlt2, rs_rs]; done) | (rw [fbM_e hbit hlt2, rs_rs, rs_eq]) | (rw [fbM_e hbit hlt2, rs_eq, rs_rs]))
          · have hlt2 : fnx (fbN B (tlT R) (srL R 150).length i (i + 1 - 2 ^ k)) (tlT R k) < fbM (fbN B (tlT R) (srL R 150).length i) (tlT R) (i + 1) k := by omega
            refine M_iload (pc := 123) C dX8_fewestBlocks_123 rfl ?_
            refine M_goto (pc := 125) C (tgt := 134) dX8_fewestBlocks_125 (by decide) ?_
            refine A_iast (pc := 134) C (a := 92) (q := (i + 1)) rfl (tt_92 hT) (by decide) (by omega) (by omega) (by omega) dX8_fewestBlocks_134 ?_
            refine M.to (pc := 135) (v2 := sa (sa (sa (sa (sa v 92 (rs (rs (fbN B (tlT R) (srL R 150).length i) (i + 1) (fbM (fbN B (tlT R) (srL R 150).length i) (tlT R) (i + 1) k)) (i + 1) (fnx (fbN B (tlT R) (srL R 150).length i (i + 1 - 2 ^ k)) (tlT R k)))) 94 F) 93 (wrO O (srL R 150))) 88 A) 85 R) ?_ rfl rfl (by rw [sa_up1 (by decide), sa_up1 (by decide), sa_up1 (by decide), sa_up1 (by decide), sa_up0])
            refine M_iinc (pc := 135) C dX8_fewestBlocks_135 rfl (by decide) ?_
            refine M_goto (pc := 138) C (tgt := 33) dX8_fewestBlocks_138 (by decide) ?_
            refine M.drop [true, true, true, true, false, false, false] rfl ?_
            exact M.to (ihk (by omega)) rfl rfl (by first | (rw [fbM_f hbit]) | (rw [fbM_t hbit hlt2, rs_rs]; rfl) | (rw [fbM_e hbit hlt2, rs_rs]; rfl) | (rw [fbM_t hbit hlt2, rs_rs]; done) | (rw [fbM_e hbit hlt2, rs_rs]; done) | (rw [fbM_e hbit hlt2, rs_rs, rs_eq]) | (rw [fbM_e hbit hlt2, rs_eq, rs_rs]))
        · refine M_iload (pc := 84) C dX8_fewestBlocks_84 rfl ?_
          refine M_iload (pc := 86) C dX8_fewestBlocks_86 rfl ?_
          refine M_iadd (pc := 88) C dX8_fewestBlocks_88 ?_
          refine M_goto (pc := 89) C (tgt := 105) dX8_fewestBlocks_89 (by decide) ?_
          refine M.to (st2 := [vI (fnx (fbN B (tlT R) (srL R 150).length i (i + 1 - 2 ^ k)) (tlT R k))]) ?_ rfl (by unfold fnx; first | (rw [if_pos (by omega)]; done) | (rw [if_neg (by omega)]; done)) rfl
          have hfx : 0 ≤ fnx (fbN B (tlT R) (srL R 150).length i (i + 1 - 2 ^ k)) (tlT R k) ∧ fnx (fbN B (tlT R) (srL R 150).length i (i + 1 - 2 ^ k)) (tlT R k) ≤ 2048 := by unfold fnx; split <;> omega
          refine M_istore (pc := 105) C dX8_fewestBlocks_105 (by decide) ?_
          refine M_aload_n (pc := 107) C dX8_fewestBlocks_107 rfl (by decide) ?_
          refine A_getR (pc := 108) C fl_X8_32 rfl (a := 84) (j := 92) rfl (tt_84 hT) rfl dX8_fewestBlocks_108 ?_
          refine M_iload_n (pc := 111) C dX8_fewestBlocks_111 rfl ?_
          refine M_iload (pc := 112) C dX8_fewestBlocks_112 rfl ?_
          refine M_aload_n (pc := 114) C dX8_fewestBlocks_114 rfl (by decide) ?_
          refine A_getR (pc := 115) C fl_X8_32 rfl (a := 84) (j := 92) rfl (tt_84 hT) rfl dX8_fewestBlocks_115 ?_
          refine M_iload_n (pc := 118) C dX8_fewestBlocks_118 rfl ?_
          refine A_iald (pc := 119) C (a := 92) (q := (i + 1)) rfl (tt_92 hT) (by decide) (by omega) (by omega) dX8_fewestBlocks_119 (fun (r_119 : i32 ((rs (fbN B (tlT R) (srL R 150).length i) (i + 1) (fbM (fbN B (tlT R) (srL R 150).length i) (tlT R) (i + 1) k)) (i + 1))) => ?_)
          refine M.to (pc := 120) (st2 := [vI ((rs (fbN B (tlT R) (srL R 150).length i) (i + 1) (fbM (fbN B (tlT R) (srL R 150).length i) (tlT R) (i + 1) k)) (i + 1)), vI (fnx (fbN B (tlT R) (srL R 150).length i (i + 1 - 2 ^ k)) (tlT R k)), vI ((i + 1 : Nat) : Int), vR 92]) ?_ rfl rfl rfl
          have hr0 : (rs (fbN B (tlT R) (srL R 150).length i) (i + 1) (fbM (fbN B (tlT R) (srL R 150).length i) (tlT R) (i + 1) k)) (i + 1) = fbM (fbN B (tlT R) (srL R 150).length i) (tlT R) (i + 1) k := rs_eq _ _ _
          refine M_icmp_ge (pc := 120) C (tgt := 128) (by omega) (by omega) dX8_fewestBlocks_120 (by decide) (fun h_120 => ?_) (fun h_120 => ?_)
          · have hlt2 : ¬ fnx (fbN B (tlT R) (srL R 150).length i (i + 1 - 2 ^ k)) (tlT R k) < fbM (fbN B (tlT R) (srL R 150).length i) (tlT R) (i + 1) k := by omega
            refine M_aload_n (pc := 128) C dX8_fewestBlocks_128 rfl (by decide) ?_
            refine A_getR (pc := 129) C fl_X8_32 rfl (a := 84) (j := 92) rfl (tt_84 hT) rfl dX8_fewestBlocks_129 ?_
            refine M_iload_n (pc := 132) C dX8_fewestBlocks_132 rfl ?_
            refine A_iald (pc := 133) C (a := 92) (q := (i + 1)) rfl (tt_92 hT) (by decide) (by omega) (by omega) dX8_fewestBlocks_133 (fun (r_133 : i32 ((rs (fbN B (tlT R) (srL R 150).length i) (i + 1) (fbM (fbN B (tlT R) (srL R 150).length i) (tlT R) (i + 1) k)) (i + 1))) => ?_)
            refine M.to (pc := 134) (st2 := [vI ((rs (fbN B (tlT R) (srL R 150).length i) (i + 1) (fbM (fbN B (tlT R) (srL R 150).length i) (tlT R) (i + 1) k)) (i + 1)), vI ((i + 1 : Nat) : Int), vR 92]) ?_ rfl rfl rfl
            refine A_iast (pc := 134) C (a := 92) (q := (i + 1)) rfl (tt_92 hT) (by decide) (by omega) (by omega) (by omega) dX8_fewestBlocks_134 ?_
            refine M.to (pc := 135) (v2 := sa (sa (sa (sa (sa v 92 (rs (rs (fbN B (tlT R) (srL R 150).length i) (i + 1) (fbM (fbN B (tlT R) (srL R 150).length i) (tlT R) (i + 1) k)) (i + 1) ((rs (fbN B (tlT R) (srL R 150).length i) (i + 1) (fbM (fbN B (tlT R) (srL R 150).length i) (tlT R) (i + 1) k)) (i + 1)))) 94 F) 93 (wrO O (srL R 150))) 88 A) 85 R) ?_ rfl rfl (by rw [sa_up1 (by decide), sa_up1 (by decide), sa_up1 (by decide), sa_up1 (by decide), sa_up0])
            refine M_iinc (pc := 135) C dX8_fewestBlocks_135 rfl (by decide) ?_
            refine M_goto (pc := 138) C (tgt := 33) dX8_fewestBlocks_138 (by decide) ?_
            refine M.drop [true, true, true, true, false, false, false] rfl ?_
            exact M.to (ihk (by omega)) rfl rfl (by first | (rw [fbM_f hbit]) | (rw [fbM_t hbit hlt2, rs_rs]; rfl) | (rw [fbM_e hbit hlt2, rs_rs]; rfl) | (rw [fbM_t hbit hlt2, rs_rs]; done) | (rw [fbM_e hbit hlt2, rs_rs]; done) | (rw [fbM_e hbit hlt2, rs_rs, rs_eq]) | (rw [fbM_e hbit hlt2, rs_eq, rs_rs]))
          · have hlt2 : fnx (fbN B (tlT R) (srL R 150).length i (i + 1 - 2 ^ k)) (tlT R k) < fbM (fbN B (tlT R) (srL R 150).length i) (tlT R) (i + 1) k := by omega
            refine M_iload (pc := 123) C dX8_fewestBlocks_123 rfl ?_
            refine M_goto (pc := 125) C (tgt := 134) dX8_fewestBlocks_125 (by decide) ?_
            refine A_iast (pc := 134) C (a := 92) (q := (i + 1)) rfl (tt_92 hT) (by decide) (by omega) (by omega) (by omega) dX8_fewestBlocks_134 ?_
            refine M.to (pc := 135) (v2 := sa (sa (sa (sa (sa v 92 (rs (rs (fbN B (tlT R) (srL R 150).length i) (i + 1) (fbM (fbN B (tlT R) (srL R 150).length i) (tlT R) (i + 1) k)) (i + 1) (fnx (fbN B (tlT R) (srL R 150).length i (i + 1 - 2 ^ k)) (tlT R k)))) 94 F) 93 (wrO O (srL R 150))) 88 A) 85 R) ?_ rfl rfl (by rw [sa_up1 (by decide), sa_up1 (by decide), sa_up1 (by decide), sa_up1 (by decide), sa_up0])
            refine M_iinc (pc := 135) C dX8_fewestBlocks_135 rfl (by decide) ?_
            refine M_goto (pc := 138) C (tgt := 33) dX8_fewestBlocks_138 (by decide) ?_
            refine M.drop [true, true, true, true, false, false, false] rfl ?_
            exact M.to (ihk (by omega)) rfl rfl (by first | (rw [fbM_f hbit]) | (rw [fbM_t hbit hlt2, rs_rs]; rfl) | (rw [fbM_e hbit hlt2, rs_rs]; rfl) | (rw [fbM_t hbit hlt2, rs_rs]; done) | (rw [fbM_e hbit hlt2, rs_rs]; done) | (rw [fbM_e hbit hlt2, rs_rs, rs_eq]) | (rw [fbM_e hbit hlt2, rs_eq, rs_rs]))
