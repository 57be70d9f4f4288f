theorem c_X8_layAside {N : Nat} {T : Ty} {A R : Nat → Int} {v : Ct} (hT : TT T)  : Runs mX8_layAside 0 0 0 [vR 84] N T (sa (sa v 88 A) 85 R) none N T (sa (sa v 88 (cpA A R 0 0 207)) 85 R) := by
  refine Runs.of (by decide) (Nat.le_of_ble_eq_true rfl) fun κ C => ?_
  refine M_iconst (pc := 0) C dX8_layAside_0 ?_
  refine M_istore_n (pc := 1) C dX8_layAside_1 (by decide) ?_
  refine M.to (v2 := sa (sa v 88 (cpA A R 0 0 0)) 85 R) ?_ rfl rfl (by rw [cpA_0])
  refine loop_le (P := fun i => M κ N T 2 [some (vR 84), some (vI ((i : Nat) : Int))] [] (sa (sa v 88 (cpA A R 0 0 i)) 85 R) 0 0 (QR κ none N T (sa (sa v 88 (cpA A R 0 0 207)) 85 R) 0 0)) 207 (fun i hi ih => ?_)
  refine M_iload_n (pc := 2) C dX8_layAside_2 rfl ?_
  refine M_sipush (pc := 3) C (by decide) dX8_layAside_3 ?_
  refine M_icmp_ge (pc := 6) C (tgt := 27) (by omega) (by omega) dX8_layAside_6 (by decide) (fun h_6 => ?_) (fun h_6 => ?_)
  · exact M_vret (pc := 27) C rfl dX8_layAside_27 (by rw [show i = 207 by omega]) rfl
  · refine M_aload_n (pc := 9) C dX8_layAside_9 rfl (by decide) ?_
    refine A_getR (pc := 10) C fl_X8_19 rfl (a := 84) (j := 88) rfl (tt_84 hT) rfl dX8_layAside_10 ?_
    refine M_iload_n (pc := 13) C dX8_layAside_13 rfl ?_
    refine M_aload_n (pc := 14) C dX8_layAside_14 rfl (by decide) ?_
    refine A_getR (pc := 15) C fl_X8_7 rfl (a := 84) (j := 85) rfl (tt_84 hT) rfl dX8_layAside_15 ?_
    refine M_iload_n (pc := 18) C dX8_layAside_18 rfl ?_
    refine A_iald (pc := 19) C (a := 85) (q := i) rfl (tt_85 hT) (by decide) rfl (by omega) dX8_layAside_19 (fun (r_19 : i32 (R i)) => ?_)
    refine M.to (pc := 20) (st2 := [vI (R i), vI ((i : Nat) : Int), vR 88]) ?_ rfl rfl rfl
    refine A_iast (pc := 20) C (a := 88) (q := i) rfl (tt_88 hT) (by decide) rfl (by omega) (by omega) dX8_layAside_20 ?_
    refine M.to (pc := 21) (v2 := sa (sa v 88 (rs (cpA A R 0 0 i) i (R i))) 85 R) ?_ rfl rfl (by rw [sa_up1 (by decide), sa_up0])
    refine M_iinc (pc := 21) C dX8_layAside_21 rfl (by decide) ?_
    refine M_goto (pc := 24) C (tgt := 2) dX8_layAside_24 (by decide) ?_
    exact M.to (ih (by omega)) rfl rfl (by rw [show rs (cpA A R 0 0 i) i (R i) = cpA A R 0 0 (i + 1) from by have h := cpA_s A R 0 0 i; rw [Nat.zero_add] at h; exact h])
theorem c_X8_putBack {N : Nat} {T : Ty} {A R : Nat → Int} {v : Ct} (hT : TT T)  : Runs mX8_putBack 0 0 0 [vR 84] N T (sa (sa v 88 A) 85 R) none N T (sa (sa v 88 A) 85 (cpA R A 0 0 207)) := by
  refine Runs.of (by decide) (Nat.le_of_ble_eq_true rfl) fun κ C => ?_
  refine M_iconst (pc := 0) C dX8_putBack_0 ?_
  refine M_istore_n (pc := 1) C dX8_putBack_1 (by decide) ?_
  refine M.to (v2 := sa (sa v 88 A) 85 (cpA R A 0 0 0)) ?_ rfl rfl (by rw [cpA_0])
  refine loop_le (P := fun i => M κ N T 2 [some (vR 84), some (vI ((i : Nat) : Int))] [] (sa (sa v 88 A) 85 (cpA R A 0 0 i)) 0 0 (QR κ none N T (sa (sa v 88 A) 85 (cpA R A 0 0 207)) 0 0)) 207 (fun i hi ih => ?_)
  refine M_iload_n (pc := 2) C dX8_putBack_2 rfl ?_
  refine M_sipush (pc := 3) C (by decide) dX8_putBack_3 ?_
  refine M_icmp_ge (pc := 6) C (tgt := 27) (by omega) (by omega) dX8_putBack_6 (by decide) (fun h_6 => ?_) (fun h_6 => ?_)
  · exact M_vret (pc := 27) C rfl dX8_putBack_27 (by rw [show i = 207 by omega]) rfl
  · refine M_aload_n (pc := 9) C dX8_putBack_9 rfl (by decide) ?_
    refine A_getR (pc := 10) C fl_X8_7 rfl (a := 84) (j := 85) rfl (tt_84 hT) rfl dX8_putBack_10 ?_
    refine M_iload_n (pc := 13) C dX8_putBack_13 rfl ?_
    refine M_aload_n (pc := 14) C dX8_putBack_14 rfl (by decide) ?_
    refine A_getR (pc := 15) C fl_X8_19 rfl (a := 84) (j := 88) rfl (tt_84 hT) rfl dX8_putBack_15 ?_
    refine M_iload_n (pc := 18) C dX8_putBack_18 rfl ?_
    refine A_iald (pc := 19) C (a := 88) (q := i) rfl (tt_88 hT) (by decide) rfl (by omega) dX8_putBack_19 (fun (r_19 : i32 (A i)) => ?_)
    refine M.to (pc := 20) (st2 := [vI (A i), vI ((i : Nat) : Int), vR 85]) ?_ rfl rfl rfl
    refine A_iast (pc := 20) C (a := 85) (q := i) rfl (tt_85 hT) (by decide) rfl (by omega) (by omega) dX8_putBack_20 ?_
    refine M.to (pc := 21) (v2 := sa (sa v 88 A) 85 (rs (cpA R A 0 0 i) i (A i))) ?_ rfl rfl (by rw [sa_up0])
    refine M_iinc (pc := 21) C dX8_putBack_21 rfl (by decide) ?_
    refine M_goto (pc := 24) C (tgt := 2) dX8_putBack_24 (by decide) ?_
    exact M.to (ih (by omega)) rfl rfl (by rw [show rs (cpA R A 0 0 i) i (A i) = cpA R A 0 0 (i + 1) from by have h := cpA_s R A 0 0 i; rw [Nat.zero_add] at h; exact h])
theorem c_X8_frees {N : Nat} {T : Ty} {R : Nat → Int} {b : Nat} {v : Ct} (hT : TT T) (hI : RI R) (hb : b < 24) : Runs mX8_frees 4 0 0 [vR 84, vI ((b : Nat) : Int)] N T (sa v 85 R) (some (vI (Bi (frC R b)))) N T (sa v 85 (frR R b)) := by
  refine Runs.of (by decide) (Nat.le_of_ble_eq_true rfl) fun κ C => ?_
  refine M_aload_n (pc := 0) C dX8_frees_0 rfl (by decide) ?_
  refine A_getR (pc := 1) C fl_X8_7 rfl (a := 84) (j := 85) rfl (tt_84 hT) rfl dX8_frees_1 ?_
  refine M_iconst (pc := 4) C dX8_frees_4 ?_
  refine M_iload_n (pc := 5) C dX8_frees_5 rfl ?_
  refine M_iadd (pc := 6) C dX8_frees_6 ?_
  refine A_iald (pc := 7) C (a := 85) (q := (3 + b)) rfl (tt_85 hT) (by decide) (by omega) (by omega) dX8_frees_7 (fun (r_7 : i32 (R (3 + b))) => ?_)
  refine M.to (pc := 8) (st2 := [vI (R (3 + b))]) ?_ rfl rfl rfl
  refine M_iconst (pc := 8) C dX8_frees_8 ?_
  refine M_icmp_ne (pc := 9) C (tgt := 20) (by omega) (by omega) dX8_frees_9 (by decide) (fun h_9 => ?_) (fun h_9 => ?_)
  · refine M_iconst (pc := 20) C dX8_frees_20 ?_
    exact M_iret (pc := 21) C rfl dX8_frees_21 (by first | (rw [show frC R b = false from decide_eq_false (by omega)]; rfl) | (rw [show frC R b = true from decide_eq_true (by omega)]; rfl)) (by first | (rw [frR_f (by omega)]; done) | (rw [frR_t (by omega)]; done))
  · refine M_aload_n (pc := 12) C dX8_frees_12 rfl (by decide) ?_
    refine M_iload_n (pc := 13) C dX8_frees_13 rfl ?_
    refine A_cV (pc := 14) C (x := vI (tiF R ((b : Nat) : Int))) (a := 84) (c := 8) (c_X8_tailsIn hT hI (b := ((b : Nat) : Int)) (by omega)) yw_X8_tailsIn lk_X8_90 rfl (congrArg Prod.fst (tt_84 hT)) hc_8 rfl dX8_frees_14 rfl (Nat.le_of_ble_eq_true rfl) (by decide) ⟨Nat.le_refl _, Nat.le_refl _⟩ ?_
    have hti_14 := tiF_bd R ((b : Nat) : Int)
    refine M_if_le (pc := 17) C (tgt := 22) (by omega) dX8_frees_17 (by decide) (fun h_17 => ?_) (fun h_17 => ?_)
    · refine M_aload_n (pc := 22) C dX8_frees_22 rfl (by decide) ?_
      refine A_getR (pc := 23) C fl_X8_7 rfl (a := 84) (j := 85) rfl (tt_84 hT) rfl dX8_frees_23 ?_
      refine M_iconst (pc := 26) C dX8_frees_26 ?_
      refine M_iload_n (pc := 27) C dX8_frees_27 rfl ?_
      refine M_iadd (pc := 28) C dX8_frees_28 ?_
      refine M_iconst (pc := 29) C dX8_frees_29 ?_
      refine A_iast (pc := 30) C (a := 85) (q := (3 + b)) rfl (tt_85 hT) (by decide) (by omega) (by omega) (by omega) dX8_frees_30 ?_
      refine M.to (pc := 31) (v2 := sa v 85 (rs R (3 + b) 0)) ?_ rfl rfl (by rw [sa_up0])
      refine M_iconst (pc := 31) C dX8_frees_31 ?_
      exact M_iret (pc := 32) C rfl dX8_frees_32 (by first | (rw [show frC R b = false from decide_eq_false (by omega)]; rfl) | (rw [show frC R b = true from decide_eq_true (by omega)]; rfl)) (by first | (rw [frR_f (by omega)]; done) | (rw [frR_t (by omega)]; done))
    · refine M_iconst (pc := 20) C dX8_frees_20 ?_
      exact M_iret (pc := 21) C rfl dX8_frees_21 (by first | (rw [show frC R b = false from decide_eq_false (by omega)]; rfl) | (rw [show frC R b = true from decide_eq_true (by omega)]; rfl)) (by first | (rw [frR_f (by omega)]; done) | (rw [frR_t (by omega)]; done))
theorem c_X8_frees_i {N : Nat} {T : Ty} {R : Nat → Int} {x : Int} {b : Nat} {v : Ct} (hT : TT T) (hI : RI R) (hb : b < 24) (hx : x = (b : Int)) : Runs mX8_frees 4 0 0 [vR 84, vI x] N T (sa v 85 R) (some (vI (Bi (frC R b)))) N T (sa v 85 (frR R b)) := by
  subst hx
  exact c_X8_frees hT hI hb
theorem c_X8_takeTail {N : Nat} {T : Ty} {R : Nat → Int} {f : Nat} {v : Ct} (hT : TT T) (hI : RI R) (hf : f < 10) : Runs mX8_takeTail 5 0 0 [vR 84, vI ((f : Nat) : Int)] N T (sa v 85 R) none N T (sa v 85 (tkR R f)) := by
  have hf1 := hI f hf
  refine Runs.of (by decide) (Nat.le_of_ble_eq_true rfl) fun κ C => ?_
  refine M_aload_n (pc := 0) C dX8_takeTail_0 rfl (by decide) ?_
  refine M_iload_n (pc := 1) C dX8_takeTail_1 rfl ?_
  refine M_iconst (pc := 2) C dX8_takeTail_2 ?_
  refine A_cV (pc := 3) C (x := vI (ro R f 3)) (a := 84) (c := 8) (c_X8_of (f := f) (w := 3) hT (by omega)) yw_X8_of lk_X8_49 rfl (congrArg Prod.fst (tt_84 hT)) hc_8 rfl dX8_takeTail_3 rfl (Nat.le_of_ble_eq_true rfl) (by decide) ⟨Nat.le_refl _, Nat.le_refl _⟩ ?_
  refine M_rd (pc := 6) C 85 (27 + 18 * f + 3) (fun (r_3_0 : i32 (ro R f 3)) => ?_)
  refine M_istore_n (pc := 6) C dX8_takeTail_6 (by decide) ?_
  refine M_aload_n (pc := 7) C dX8_takeTail_7 rfl (by decide) ?_
  refine M_iload_n (pc := 8) C dX8_takeTail_8 rfl ?_
  refine A_cV (pc := 9) C (x := vI (ro R f 1 % 16)) (a := 84) (c := 8) (c_X8_tailOf hT hI (f := f) (by omega)) yw_X8_tailOf lk_X8_57 rfl (congrArg Prod.fst (tt_84 hT)) hc_8 rfl dX8_takeTail_9 rfl (Nat.le_of_ble_eq_true rfl) (by decide) ⟨Nat.le_refl _, Nat.le_refl _⟩ ?_
  refine T_if_le (pc := 12) C (by omega) dX8_takeTail_12 dX8_takeTail_15 dX8_takeTail_16 dX8_takeTail_19 ?_
  refine M_istore_n (pc := 20) C dX8_takeTail_20 (by decide) ?_
  refine M_aload_n (pc := 21) C dX8_takeTail_21 rfl (by decide) ?_
  refine M_iload_n (pc := 22) C dX8_takeTail_22 rfl ?_
  refine M_iconst (pc := 23) C dX8_takeTail_23 ?_
  refine M_bipush (pc := 24) C (by decide) dX8_takeTail_24 ?_
  refine M_aload_n (pc := 26) C dX8_takeTail_26 rfl (by decide) ?_
  refine M_iload_n (pc := 27) C dX8_takeTail_27 rfl ?_
  refine A_cV (pc := 28) C (x := vI (ro R f 1 / 16)) (a := 84) (c := 8) (c_X8_wholeOf hT hI (f := f) (by omega)) yw_X8_wholeOf lk_X8_93 rfl (congrArg Prod.fst (tt_84 hT)) hc_8 rfl dX8_takeTail_28 rfl (Nat.le_of_ble_eq_true rfl) (by decide) ⟨Nat.le_refl _, Nat.le_refl _⟩ ?_
  refine M_imul (pc := 31) C dX8_takeTail_31 ?_
  refine A_cVv (pc := 32) C (a := 84) (c := 8) (c_X8_lay (f := f) (w := 1) hT (by omega) (by omega)) yw_X8_lay lk_X8_96 rfl (congrArg Prod.fst (tt_84 hT)) hc_8 rfl dX8_takeTail_32 rfl (Nat.le_of_ble_eq_true rfl) (by decide) ⟨Nat.le_refl _, Nat.le_refl _⟩ ?_
  refine M.to (v2 := sa v 85 (rs R (27 + 18 * f + 1) (16 * (ro R f 1 / 16)))) ?_ rfl rfl (by rw [sa_up0])
  refine M_aload_n (pc := 35) C dX8_takeTail_35 rfl (by decide) ?_
  refine M_iload_n (pc := 36) C dX8_takeTail_36 rfl ?_
  refine M_iconst (pc := 37) C dX8_takeTail_37 ?_
  refine M_iconst (pc := 38) C dX8_takeTail_38 ?_
  refine A_cVv (pc := 39) C (a := 84) (c := 8) (c_X8_lay (f := f) (w := 3) hT (by omega) (by decide)) yw_X8_lay lk_X8_96 rfl (congrArg Prod.fst (tt_84 hT)) hc_8 rfl dX8_takeTail_39 rfl (Nat.le_of_ble_eq_true rfl) (by decide) ⟨Nat.le_refl _, Nat.le_refl _⟩ ?_
  refine M.to (v2 := sa v 85 (rs (rs R (27 + 18 * f + 1) (16 * (ro R f 1 / 16))) (27 + 18 * f + 3) (-1))) ?_ rfl rfl (by rw [sa_up0])
  refine M_aload_n (pc := 42) C dX8_takeTail_42 rfl (by decide) ?_
  refine M_iload_n (pc := 43) C dX8_takeTail_43 rfl ?_
  refine M_iconst (pc := 44) C dX8_takeTail_44 ?_
  refine M_iconst (pc := 45) C dX8_takeTail_45 ?_
  refine A_cVv (pc := 46) C (a := 84) (c := 8) (c_X8_lay (f := f) (w := 4) hT (by omega) (by decide)) yw_X8_lay lk_X8_96 rfl (congrArg Prod.fst (tt_84 hT)) hc_8 rfl dX8_takeTail_46 rfl (Nat.le_of_ble_eq_true rfl) (by decide) ⟨Nat.le_refl _, Nat.le_refl _⟩ ?_
  refine M.to (v2 := sa v 85 (rs (rs (rs R (27 + 18 * f + 1) (16 * (ro R f 1 / 16))) (27 + 18 * f + 3) (-1)) (27 + 18 * f + 4) (-1))) ?_ rfl rfl (by rw [sa_up0])
  refine M_iload_n (pc := 49) C dX8_takeTail_49 rfl ?_
  refine M_if_eq (pc := 50) C (tgt := 61) (Bi_i32 _) dX8_takeTail_50 (by decide) (fun h_50 => ?_) (fun h_50 => ?_)
  · have b_50 := Bid_eq0 h_50
    refine M_iconst (pc := 61) C dX8_takeTail_61 ?_
    refine M_istore (pc := 62) C dX8_takeTail_62 (by decide) ?_
    exact M_vret (pc := 64) C rfl dX8_takeTail_64 (by unfold tkR; first | (rw [if_pos b_50]; rfl) | (rw [if_neg b_50]; rfl)) rfl
  · have b_50 := Bid_ne0 h_50
    refine M_aload_n (pc := 53) C dX8_takeTail_53 rfl (by decide) ?_
    refine M_iload_n (pc := 54) C dX8_takeTail_54 rfl ?_
    refine A_cV (pc := 55) C (x := vI (Bi (frC (rs (rs (rs R (27 + 18 * f + 1) (16 * (ro R f 1 / 16))) (27 + 18 * f + 3) (-1)) (27 + 18 * f + 4) (-1)) ((ro R f 3).toNat)))) (a := 84) (c := 8) (c_X8_frees_i hT (v := v) (R := rs (rs (rs R (27 + 18 * f + 1) (16 * (ro R f 1 / 16))) (27 + 18 * f + 3) (-1)) (27 + 18 * f + 4) (-1)) (x := ro R f 3) (b := (ro R f 3).toNat) (RI_tk0 hI hf) (by omega) (by omega)) yw_X8_frees lk_X8_100 rfl (congrArg Prod.fst (tt_84 hT)) hc_8 rfl dX8_takeTail_55 rfl (Nat.le_of_ble_eq_true rfl) (by decide) ⟨Nat.le_refl _, Nat.le_refl _⟩ ?_
    refine M_goto (pc := 58) C (tgt := 62) dX8_takeTail_58 (by decide) ?_
    refine M_istore (pc := 62) C dX8_takeTail_62 (by decide) ?_
    exact M_vret (pc := 64) C rfl dX8_takeTail_64 (by unfold tkR; first | (rw [if_pos b_50]; rfl) | (rw [if_neg b_50]; rfl)) rfl
theorem c_X8_lay_i {N : Nat} {T : Ty} {f w : Nat} {x W : Int} {v : Ct} (hT : TT T) (h : 27 + 18 * f + w < 207) (hx : i32 x) (hW : W = (w : Int)) : Runs mX8_lay 0 0 0 [vR 84, vI ((f : Nat) : Int), vI W, vI x] N T v none N T (up v 85 (27 + 18 * f + w) x) := by
  subst hW
  exact c_X8_lay hT h hx
