theorem c_X8_firstError {N : Nat} {T : Ty} {H G : Nat → Int} {n : Nat} {v : Ct} (hT : TT T) (hl : G 7 = (n : Int)) (hn : n ≤ 60) : Runs mX8_firstError 7 0 0 [vR 84] N T (sa (sa v 91 H) 84 G) (some (vI (if (wlI (v 90) n H 60).1 = true then ((n : Nat) : Int) else (((wlI (v 90) n H 60).2.1 : Nat) : Int)))) N T (sa (sa v 91 ((wlI (v 90) n H 60).2.2)) 84 (rs (rs G 13 0) 8 (((wlI (v 90) n H 60).2.1 : Nat) : Int))) := by
  refine Runs.of (by decide) (Nat.le_of_ble_eq_true rfl) fun κ C => ?_
  refine M_aload_n (pc := 0) C dX8_firstError_0 rfl (by decide) ?_
  refine M_iconst (pc := 1) C dX8_firstError_1 ?_
  refine A_putI (pc := 2) C fl_X8_41 rfl (by decide) (a := 84) rfl (tt_84 hT) (by omega) dX8_firstError_2 ?_
  refine M.to (pc := 5) (v2 := sa (sa v 91 H) 84 (rs G 13 0)) ?_ rfl rfl (by rw [sa_up0])
  refine M_aload_n (pc := 5) C dX8_firstError_5 rfl (by decide) ?_
  refine A_cV (pc := 6) C (x := vI (Bi (wlI (v 90) n H 60).1)) (a := 84) (c := 8) (c_X8_isWell hT (v := v) (H := H) (G := rs G 13 0) (n := n) (by rw [rs_ne (by decide)]; exact hl) hn) yw_X8_isWell lk_X8_188 rfl (congrArg Prod.fst (tt_84 hT)) hc_8 rfl dX8_firstError_6 rfl (Nat.le_of_ble_eq_true rfl) (by decide) ⟨Nat.le_refl _, Nat.le_refl _⟩ ?_
  refine M_if_eq (pc := 9) C (tgt := 19) (Bi_i32 _) dX8_firstError_9 (by decide) (fun h_9 => ?_) (fun h_9 => ?_)
  · have b_9 := Bi_eq0 h_9
    have hW : ¬ (wlI (v 90) n H 60).1 = true := by rw [b_9]; decide
    refine M_aload_n (pc := 19) C dX8_firstError_19 rfl (by decide) ?_
    refine A_getI (pc := 20) C fl_X8_167 rfl (a := 84) rfl (tt_84 hT) dX8_firstError_20 (fun (r_20 : i32 ((rs (rs G 13 0) 8 (((wlI (v 90) n H 60).2.1 : Nat) : Int)) 8)) => ?_)
    refine M.to (pc := 23) (st2 := [vI ((rs (rs G 13 0) 8 (((wlI (v 90) n H 60).2.1 : Nat) : Int)) 8)]) ?_ rfl rfl rfl
    refine M.to (pc := 23) (st2 := [vI (((wlI (v 90) n H 60).2.1 : Nat) : Int)]) ?_ rfl (by rw [rs_eq]) rfl
    exact M_iret (pc := 23) C rfl dX8_firstError_23 (by first | rw [if_pos b_9] | rw [if_neg hW]) rfl
  · have b_9 := Bi_ne0 h_9
    refine M_aload_n (pc := 12) C dX8_firstError_12 rfl (by decide) ?_
    refine A_getI (pc := 13) C fl_X8_164 rfl (a := 84) rfl (tt_84 hT) dX8_firstError_13 (fun (r_13 : i32 ((rs (rs G 13 0) 8 (((wlI (v 90) n H 60).2.1 : Nat) : Int)) 7)) => ?_)
    refine M.to (pc := 16) (st2 := [vI ((rs (rs G 13 0) 8 (((wlI (v 90) n H 60).2.1 : Nat) : Int)) 7)]) ?_ rfl rfl rfl
    refine M.to (pc := 16) (st2 := [vI ((n : Nat) : Int)]) ?_ rfl (by rw [rs_ne (by decide), rs_ne (by decide), hl]) rfl
    refine M_goto (pc := 16) C (tgt := 23) dX8_firstError_16 (by decide) ?_
    exact M_iret (pc := 23) C rfl dX8_firstError_23 (by first | rw [if_pos b_9] | rw [if_neg hW]) rfl
theorem c_X8_does {N : Nat} {T : Ty} {A R : Nat → Int} {x : Int} {a b : Nat} {v : Ct} (hT : TT T) (hI : RI R) (hx : x = 43 ∨ x = 45 ∨ x = 60 ∨ x = 62) (h0 : v 91 0 = (a : Int)) (h1 : v 91 1 = (b : Int)) (ha : a ≤ 200) (hb : b ≤ 200) (hx2 : x ≠ 43 → a < 10) (hx3 : x = 60 → 1 ≤ b) : Runs mX8_does 9 0 0 [vR 84, vI x] N T (sa (sa v 88 A) 85 R) (some (vI (doV R x a b))) N T (sa (sa v 88 (doA A R x a)) 85 (doR R x a b)) := by
  refine Runs.of (by decide) (Nat.le_of_ble_eq_true rfl) fun κ C => ?_
  refine M_iload_n (pc := 0) C dX8_does_0 rfl ?_
  refine M_bipush (pc := 1) C (by decide) dX8_does_1 ?_
  refine M_icmp_ne (pc := 3) C (tgt := 17) (by omega) (by omega) dX8_does_3 (by decide) (fun h_3 => ?_) (fun h_3 => ?_)
  · have ha10 := hx2 h_3
    refine M_aload_n (pc := 17) C dX8_does_17 rfl (by decide) ?_
    refine M_aload_n (pc := 18) C dX8_does_18 rfl (by decide) ?_
    refine A_getR (pc := 19) C fl_X8_29 rfl (a := 84) (j := 91) rfl (tt_84 hT) rfl dX8_does_19 ?_
    refine M_iconst (pc := 22) C dX8_does_22 ?_
    refine A_iald (pc := 23) C (a := 91) (q := 0) rfl (tt_91 hT) (by decide) rfl (by omega) dX8_does_23 (fun (r_23 : i32 (v 91 0)) => ?_)
    refine M.to (pc := 24) (st2 := [vI (v 91 0), vR 84]) ?_ rfl rfl rfl
    refine M.to (st2 := [vI ((a : Nat) : Int), vR 84]) ?_ rfl (by rw [h0]) rfl
    refine A_cV (pc := 24) C (x := vI (Bi (decide (ro R a 0 = 1)))) (a := 84) (c := 8) (c_X8_isFile_n hT (f := a) (by omega)) yw_X8_isFile lk_X8_53 rfl (congrArg Prod.fst (tt_84 hT)) hc_8 rfl dX8_does_24 rfl (Nat.le_of_ble_eq_true rfl) (by decide) ⟨Nat.le_refl _, Nat.le_refl _⟩ ?_
    refine M_if_ne (pc := 27) C (tgt := 32) (Bi_i32 _) dX8_does_27 (by decide) (fun h_27 => ?_) (fun h_27 => ?_)
    · have b_27 := Bid_ne0 h_27
      refine M_iload_n (pc := 32) C dX8_does_32 rfl ?_
      refine M_bipush (pc := 33) C (by decide) dX8_does_33 ?_
      refine M_icmp_ne (pc := 35) C (tgt := 51) (by omega) (by omega) dX8_does_35 (by decide) (fun h_35 => ?_) (fun h_35 => ?_)
      · refine M_iload_n (pc := 51) C dX8_does_51 rfl ?_
        refine M_bipush (pc := 52) C (by decide) dX8_does_52 ?_
        refine M_icmp_ne (pc := 54) C (tgt := 76) (by omega) (by omega) dX8_does_54 (by decide) (fun h_54 => ?_) (fun h_54 => ?_)
        · refine M_aload_n (pc := 76) C dX8_does_76 rfl (by decide) ?_
          refine M_aload_n (pc := 77) C dX8_does_77 rfl (by decide) ?_
          refine A_getR (pc := 78) C fl_X8_29 rfl (a := 84) (j := 91) rfl (tt_84 hT) rfl dX8_does_78 ?_
          refine M_iconst (pc := 81) C dX8_does_81 ?_
          refine A_iald (pc := 82) C (a := 91) (q := 0) rfl (tt_91 hT) (by decide) rfl (by omega) dX8_does_82 (fun (r_82 : i32 (v 91 0)) => ?_)
          refine M.to (pc := 83) (st2 := [vI (v 91 0), vR 84]) ?_ rfl rfl rfl
          refine M.to (st2 := [vI ((a : Nat) : Int), vR 84]) ?_ rfl (by rw [h0]) rfl
          refine M_aload_n (pc := 83) C dX8_does_83 rfl (by decide) ?_
          refine A_getR (pc := 84) C fl_X8_29 rfl (a := 84) (j := 91) rfl (tt_84 hT) rfl dX8_does_84 ?_
          refine M_iconst (pc := 87) C dX8_does_87 ?_
          refine A_iald (pc := 88) C (a := 91) (q := 1) rfl (tt_91 hT) (by decide) rfl (by omega) dX8_does_88 (fun (r_88 : i32 (v 91 1)) => ?_)
          refine M.to (pc := 89) (st2 := [vI (v 91 1), vI ((a : Nat) : Int), vR 84]) ?_ rfl rfl rfl
          have e1 : doV R x a b = opV (cuO R a b) := by unfold doV; rw [if_neg h_3, if_pos b_27, if_neg h_35, if_neg h_54]
          have e2 : doR R x a b = opR R (cuO R a b) := by unfold doR; rw [if_neg h_3, if_pos b_27, if_neg h_35, if_neg h_54]
          have e3 : doA A R x a = cpA A R 0 0 207 := by unfold doA; rw [if_neg h_3, if_pos b_27, if_neg h_35]
          have hb1 := hx3 (by omega)
          refine M.to (st2 := [vI ((b : Nat) : Int), vI ((a : Nat) : Int), vR 84]) ?_ rfl (by rw [h1]) rfl
          refine A_cV (pc := 89) C (x := vI (opV (cuO R a b))) (a := 84) (c := 8) (c_X8_cuts hT (v := v) (A := A) (R := R) (f := a) (n := b) hI (by omega) (by omega) (by omega)) yw_X8_cuts lk_X8_137 rfl (congrArg Prod.fst (tt_84 hT)) hc_8 rfl dX8_does_89 rfl (Nat.le_of_ble_eq_true rfl) (by decide) ⟨Nat.le_refl _, Nat.le_refl _⟩ ?_
          exact M_iret (pc := 92) C rfl dX8_does_92 (by rw [e1]) (by rw [e2, e3])
        · refine M_aload_n (pc := 57) C dX8_does_57 rfl (by decide) ?_
          refine M_aload_n (pc := 58) C dX8_does_58 rfl (by decide) ?_
          refine A_getR (pc := 59) C fl_X8_29 rfl (a := 84) (j := 91) rfl (tt_84 hT) rfl dX8_does_59 ?_
          refine M_iconst (pc := 62) C dX8_does_62 ?_
          refine A_iald (pc := 63) C (a := 91) (q := 0) rfl (tt_91 hT) (by decide) rfl (by omega) dX8_does_63 (fun (r_63 : i32 (v 91 0)) => ?_)
          refine M.to (pc := 64) (st2 := [vI (v 91 0), vR 84]) ?_ rfl rfl rfl
          refine M.to (st2 := [vI ((a : Nat) : Int), vR 84]) ?_ rfl (by rw [h0]) rfl
          refine M_aload_n (pc := 64) C dX8_does_64 rfl (by decide) ?_
          refine A_getR (pc := 65) C fl_X8_29 rfl (a := 84) (j := 91) rfl (tt_84 hT) rfl dX8_does_65 ?_
          refine M_iconst (pc := 68) C dX8_does_68 ?_
          refine A_iald (pc := 69) C (a := 91) (q := 1) rfl (tt_91 hT) (by decide) rfl (by omega) dX8_does_69 (fun (r_69 : i32 (v 91 1)) => ?_)
          refine M.to (pc := 70) (st2 := [vI (v 91 1), vI ((a : Nat) : Int), vR 84]) ?_ rfl rfl rfl
          have e1 : doV R x a b = opV (gwO R a b) := by unfold doV; rw [if_neg h_3, if_pos b_27, if_neg h_35, if_pos h_54]
          have e2 : doR R x a b = opR R (gwO R a b) := by unfold doR; rw [if_neg h_3, if_pos b_27, if_neg h_35, if_pos h_54]
          have e3 : doA A R x a = cpA A R 0 0 207 := by unfold doA; rw [if_neg h_3, if_pos b_27, if_neg h_35]
          refine M.to (st2 := [vI ((b : Nat) : Int), vI ((a : Nat) : Int), vR 84]) ?_ rfl (by rw [h1]) rfl
          refine A_cV (pc := 70) C (x := vI (opV (gwO R a b))) (a := 84) (c := 8) (c_X8_grows hT (v := v) (A := A) (R := R) (f := a) (n := b) hI (by omega) (by omega)) yw_X8_grows lk_X8_134 rfl (congrArg Prod.fst (tt_84 hT)) hc_8 rfl dX8_does_70 rfl (Nat.le_of_ble_eq_true rfl) (by decide) ⟨Nat.le_refl _, Nat.le_refl _⟩ ?_
          refine M_goto (pc := 73) C (tgt := 92) dX8_does_73 (by decide) ?_
          exact M_iret (pc := 92) C rfl dX8_does_92 (by rw [e1]) (by rw [e2, e3])
      · refine M_aload_n (pc := 38) C dX8_does_38 rfl (by decide) ?_
        refine M_aload_n (pc := 39) C dX8_does_39 rfl (by decide) ?_
        refine A_getR (pc := 40) C fl_X8_29 rfl (a := 84) (j := 91) rfl (tt_84 hT) rfl dX8_does_40 ?_
        refine M_iconst (pc := 43) C dX8_does_43 ?_
        refine A_iald (pc := 44) C (a := 91) (q := 0) rfl (tt_91 hT) (by decide) rfl (by omega) dX8_does_44 (fun (r_44 : i32 (v 91 0)) => ?_)
        refine M.to (pc := 45) (st2 := [vI (v 91 0), vR 84]) ?_ rfl rfl rfl
        have e1 : doV R x a b = dlV R a := by unfold doV; rw [if_neg h_3, if_pos b_27, if_pos h_35]
        have e2 : doR R x a b = dlR R a := by unfold doR; rw [if_neg h_3, if_pos b_27, if_pos h_35]
        have e3 : doA A R x a = A := by unfold doA; rw [if_neg h_3, if_pos b_27, if_pos h_35]
        refine M.to (st2 := [vI ((a : Nat) : Int), vR 84]) ?_ rfl (by rw [h0]) rfl
        refine A_cV (pc := 45) C (x := vI (dlV R a)) (a := 84) (c := 8) (c_X8_deletes hT (v := sa v 88 A) (R := R) (f := a) hI (by omega)) yw_X8_deletes lk_X8_140 rfl (congrArg Prod.fst (tt_84 hT)) hc_8 rfl dX8_does_45 rfl (Nat.le_of_ble_eq_true rfl) (by decide) ⟨Nat.le_refl _, Nat.le_refl _⟩ ?_
        refine M_goto (pc := 48) C (tgt := 92) dX8_does_48 (by decide) ?_
        exact M_iret (pc := 92) C rfl dX8_does_92 (by rw [e1]) (by rw [e2, e3])
    · have b_27 := Bid_eq0 h_27
      have e1 : doV R x a b = -1 := by unfold doV; rw [if_neg h_3, if_neg b_27]
      have e2 : doR R x a b = R := by unfold doR; rw [if_neg h_3, if_neg b_27]
      have e3 : doA A R x a = A := by unfold doA; rw [if_neg h_3, if_neg b_27]
      refine M_iconst (pc := 30) C dX8_does_30 ?_
      exact M_iret (pc := 31) C rfl dX8_does_31 (by rw [e1]) (by rw [e2, e3])
  · refine M_aload_n (pc := 6) C dX8_does_6 rfl (by decide) ?_
    refine M_aload_n (pc := 7) C dX8_does_7 rfl (by decide) ?_
    refine A_getR (pc := 8) C fl_X8_29 rfl (a := 84) (j := 91) rfl (tt_84 hT) rfl dX8_does_8 ?_
    refine M_iconst (pc := 11) C dX8_does_11 ?_
    refine A_iald (pc := 12) C (a := 91) (q := 0) rfl (tt_91 hT) (by decide) rfl (by omega) dX8_does_12 (fun (r_12 : i32 (v 91 0)) => ?_)
    refine M.to (pc := 13) (st2 := [vI (v 91 0), vR 84]) ?_ rfl rfl rfl
    have e1 : doV R x a b = crV R a := by unfold doV; rw [if_pos h_3]
    have e2 : doR R x a b = crR R a := by unfold doR; rw [if_pos h_3]
    have e3 : doA A R x a = cpA A R 0 0 207 := by unfold doA; rw [if_pos h_3]
    refine M.to (st2 := [vI ((a : Nat) : Int), vR 84]) ?_ rfl (by rw [h0]) rfl
    refine A_cV (pc := 13) C (x := vI (crV R a)) (a := 84) (c := 8) (c_X8_creates hT (v := v) (A := A) (R := R) (s := a) hI (by omega)) yw_X8_creates lk_X8_131 rfl (congrArg Prod.fst (tt_84 hT)) hc_8 rfl dX8_does_13 rfl (Nat.le_of_ble_eq_true rfl) (by decide) ⟨Nat.le_refl _, Nat.le_refl _⟩ ?_
    exact M_iret (pc := 16) C rfl dX8_does_16 (by rw [e1]) (by rw [e2, e3])
theorem c_X8_run_b {N : Nat} {T : Ty} {H G : Nat → Int} {n : Nat} {v : Ct} (hT : TT T) (hl : G 7 = (n : Int)) (hn : n ≤ 60) (hW : (wlI (v 90) n H 60).1 = false) : Runs mX8_run 7 0 0 [vR 84] N T (sa (sa v 91 H) 84 G) (some (vI 0)) N T (sa (sa v 91 ((wlI (v 90) n H 60).2.2)) 84 (rs (rs (rs G 13 0) 8 (((wlI (v 90) n H 60).2.1 : Nat) : Int)) 13 1)) := by
  refine Runs.of (by decide) (Nat.le_of_ble_eq_true rfl) fun κ C => ?_
  refine M_aload_n (pc := 0) C dX8_run_0 rfl (by decide) ?_
  refine M_iconst (pc := 1) C dX8_run_1 ?_
  refine A_putI (pc := 2) C fl_X8_41 rfl (by decide) (a := 84) rfl (tt_84 hT) (by omega) dX8_run_2 ?_
  refine M.to (pc := 5) (v2 := sa (sa v 91 H) 84 (rs G 13 0)) ?_ rfl rfl (by rw [sa_up0])
  refine M_aload_n (pc := 5) C dX8_run_5 rfl (by decide) ?_
  refine A_cV (pc := 6) C (x := vI (Bi (wlI (v 90) n H 60).1)) (a := 84) (c := 8) (c_X8_isWell hT (v := v) (H := H) (G := rs G 13 0) (n := n) (by rw [rs_ne (by decide)]; exact hl) hn) yw_X8_isWell lk_X8_188 rfl (congrArg Prod.fst (tt_84 hT)) hc_8 rfl dX8_run_6 rfl (Nat.le_of_ble_eq_true rfl) (by decide) ⟨Nat.le_refl _, Nat.le_refl _⟩ ?_
  refine M_if_ne (pc := 9) C (tgt := 18) (Bi_i32 _) dX8_run_9 (by decide) (fun h => absurd hW (by rw [Bi_ne0 h]; decide)) (fun _ => ?_)
  refine M_aload_n (pc := 12) C dX8_run_12 rfl (by decide) ?_
  refine M_iconst (pc := 13) C dX8_run_13 ?_
  refine A_cV (pc := 14) C (x := vI 0) (a := 84) (c := 8) (c_X8_fails hT (x := 1) (by decide)) yw_X8_fails lk_X8_81 rfl (congrArg Prod.fst (tt_84 hT)) hc_8 rfl dX8_run_14 rfl (Nat.le_of_ble_eq_true rfl) (by decide) ⟨Nat.le_refl _, Nat.le_refl _⟩ ?_
  refine M.to (v2 := sa (sa v 91 ((wlI (v 90) n H 60).2.2)) 84 (rs (rs (rs G 13 0) 8 (((wlI (v 90) n H 60).2.1 : Nat) : Int)) 13 1)) ?_ rfl rfl (by rw [sa_up0])
  exact M_iret (pc := 17) C rfl dX8_run_17 rfl rfl
theorem c_X8_run {N : Nat} {T : Ty} {H P G F O A R : Nat → Int} {n s : Nat} {W : Bool × (Nat × (Nat → Int))} {v : Ct} (hT : TT T) (hl : G 7 = (n : Int)) (hn : n ≤ 60) (hWe : wlI (v 90) n H 60 = W) (hW : W.1 = true) (hs : G 5 = (s : Int)) (hs6 : s ≤ 6) (hO : ∀ i, rnC n (rnI (v 90) n (W.2.2) A R i) = true → rnOk (v 90) n (rnI (v 90) n (W.2.2) A R i)) : Runs mX8_run 10 0 0 [vR 84] N T (sa (sa (sa (sa (sa (sa (sa v 91 H) 86 P) 84 G) 94 F) 93 O) 88 A) 85 R) (some (vI (((rnI (v 90) n (W.2.2) A R 60).2.2.1 : Nat) : Int))) N T (sa (sa (sa (sa (sa (sa (sa v 91 ((rnI (v 90) n (W.2.2) A R 60).2.2.2.1)) 86 (svP P R s)) 84 (rs (rs (rs (rs G 13 0) 5 ((svN s : Nat) : Int)) 8 (((rnI (v 90) n (W.2.2) A R 60).2.1 : Nat) : Int)) 7 0)) 94 F) 93 O) 88 ((rnI (v 90) n (W.2.2) A R 60).2.2.2.2.1)) 85 ((rnI (v 90) n (W.2.2) A R 60).2.2.2.2.2)) := by
  refine Runs.of (by decide) (Nat.le_of_ble_eq_true rfl) fun κ C => ?_
  refine M_aload_n (pc := 0) C dX8_run_0 rfl (by decide) ?_
  refine M_iconst (pc := 1) C dX8_run_1 ?_
  refine A_putI (pc := 2) C fl_X8_41 rfl (by decide) (a := 84) rfl (tt_84 hT) (by omega) dX8_run_2 ?_
  refine M.to (pc := 5) (v2 := sa (sa (sa (sa (sa (sa (sa v 91 H) 86 P) 84 (rs G 13 0)) 94 F) 93 O) 88 A) 85 R) ?_ rfl rfl (by rw [sa_up1 (by decide), sa_up1 (by decide), sa_up1 (by decide), sa_up1 (by decide), sa_up0])
  have hWf : wlI ((sa (sa (sa (sa (sa (sa (sa v 91 H) 86 P) 84 (rs G 13 0)) 94 F) 93 O) 88 A) 85 R) 90) n H 60 = W := hWe
  refine M.to (v2 := sa (sa (sa (sa (sa (sa (sa (sa (sa v 91 H) 86 P) 84 (rs G 13 0)) 94 F) 93 O) 88 A) 85 R) 91 H) 84 (rs G 13 0)) ?_ rfl rfl (sa_self2 _ 91 84)
  refine M_aload_n (pc := 5) C dX8_run_5 rfl (by decide) ?_
  refine A_cV (pc := 6) C (x := vI (Bi (wlI ((sa (sa (sa (sa (sa (sa (sa v 91 H) 86 P) 84 (rs G 13 0)) 94 F) 93 O) 88 A) 85 R) 90) n H 60).1)) (a := 84) (c := 8) (c_X8_isWell hT (v := sa (sa (sa (sa (sa (sa (sa v 91 H) 86 P) 84 (rs G 13 0)) 94 F) 93 O) 88 A) 85 R) (H := H) (G := rs G 13 0) (n := n) (by rw [rs_ne (by decide)]; exact hl) hn) yw_X8_isWell lk_X8_188 rfl (congrArg Prod.fst (tt_84 hT)) hc_8 rfl dX8_run_6 rfl (Nat.le_of_ble_eq_true rfl) (by decide) ⟨Nat.le_refl _, Nat.le_refl _⟩ ?_
  refine M.to (st2 := [vI (Bi W.1)]) (v2 := sa (sa (sa (sa (sa (sa (sa v 91 W.2.2) 86 P) 84 (rs (rs G 13 0) 8 ((W.2.1 : Nat) : Int))) 94 F) 93 O) 88 A) 85 R) ?_ rfl (by rw [hWf]) (by rw [hWf, sa_sa1 (a := 85) (b := 91) (by decide), sa_sa1 (a := 88) (b := 91) (by decide), sa_sa1 (a := 93) (b := 91) (by decide), sa_sa1 (a := 94) (b := 91) (by decide), sa_sa1 (a := 84) (b := 91) (by decide), sa_sa1 (a := 86) (b := 91) (by decide), sa_sa0 (a := 91), sa_sa1 (a := 85) (b := 84) (by decide), sa_sa1 (a := 88) (b := 84) (by decide), sa_sa1 (a := 93) (b := 84) (by decide), sa_sa1 (a := 94) (b := 84) (by decide), sa_sa0 (a := 84)])
  refine M_if_ne (pc := 9) C (tgt := 18) (Bi_i32 _) dX8_run_9 (by decide) (fun _ => ?_) (fun h => absurd hW (by rw [Bi_eq0 h]; decide))
  refine M_aload_n (pc := 18) C dX8_run_18 rfl (by decide) ?_
  refine A_cVv (pc := 19) C (a := 84) (c := 8) (c_X8_save hT (v := sa v 91 W.2.2) (P := P) (G := rs (rs G 13 0) 8 ((W.2.1 : Nat) : Int)) (F := F) (O := O) (A := A) (R := R) (s := s) (by rw [rs_ne (by decide), rs_ne (by decide)]; exact hs) hs6) yw_X8_save lk_X8_87 rfl (congrArg Prod.fst (tt_84 hT)) hc_8 rfl dX8_run_19 rfl (Nat.le_of_ble_eq_true rfl) (by decide) ⟨Nat.le_refl _, Nat.le_refl _⟩ ?_
  refine M_aload_n (pc := 22) C dX8_run_22 rfl (by decide) ?_
  refine M_iconst (pc := 23) C dX8_run_23 ?_
  refine A_putI (pc := 24) C fl_X8_167 rfl (by decide) (a := 84) rfl (tt_84 hT) (by omega) dX8_run_24 ?_
  refine M.to (pc := 27) (v2 := sa (sa (sa (sa (sa (sa (sa v 91 W.2.2) 86 (svP P R s)) 84 (rs (rs (rs (rs G 13 0) 8 ((W.2.1 : Nat) : Int)) 5 ((svN s : Nat) : Int)) 8 0)) 94 F) 93 O) 88 A) 85 R) ?_ rfl rfl (by rw [sa_up1 (by decide), sa_up1 (by decide), sa_up1 (by decide), sa_up1 (by decide), sa_up0])
  refine M_iconst (pc := 27) C dX8_run_27 ?_
  refine M_istore_n (pc := 28) C dX8_run_28 (by decide) ?_
  refine M_iconst (pc := 29) C dX8_run_29 ?_
  refine M_istore_n (pc := 30) C dX8_run_30 (by decide) ?_
  obtain ⟨G2, hG2⟩ : ∃ g : Nat → Int, g = rs (rs G 13 0) 5 ((svN s : Nat) : Int) := ⟨_, rfl⟩
  have hl2 : G2 7 = (n : Int) := by rw [hG2, rs_ne (by decide), rs_ne (by decide)]; exact hl
  refine M.to (L2 := [some (vR 84), some (vI (((rnI (v 90) n (W.2.2) A R 0).2.2.1 : Nat) : Int)), some (vI (Bi (rnI (v 90) n (W.2.2) A R 0).1))]) (v2 := sa (sa (sa (sa (sa (sa (sa v 91 ((rnI (v 90) n (W.2.2) A R 0).2.2.2.1)) 86 (svP P R s)) 84 (rs G2 8 (((rnI (v 90) n (W.2.2) A R 0).2.1 : Nat) : Int))) 94 F) 93 O) 88 ((rnI (v 90) n (W.2.2) A R 0).2.2.2.2.1)) 85 ((rnI (v 90) n (W.2.2) A R 0).2.2.2.2.2)) ?_ rfl rfl (by rw [rs_cm (i := 8) (j := 5) (by decide), rs_rs, ← hG2]; rfl)
  refine loop_le (P := fun i => M κ N T 31 [some (vR 84), some (vI (((rnI (v 90) n (W.2.2) A R i).2.2.1 : Nat) : Int)), some (vI (Bi (rnI (v 90) n (W.2.2) A R i).1))] [] (sa (sa (sa (sa (sa (sa (sa v 91 ((rnI (v 90) n (W.2.2) A R i).2.2.2.1)) 86 (svP P R s)) 84 (rs G2 8 (((rnI (v 90) n (W.2.2) A R i).2.1 : Nat) : Int))) 94 F) 93 O) 88 ((rnI (v 90) n (W.2.2) A R i).2.2.2.2.1)) 85 ((rnI (v 90) n (W.2.2) A R i).2.2.2.2.2)) 0 0 (QR κ (some (vI (((rnI (v 90) n (W.2.2) A R 60).2.2.1 : Nat) : Int))) N T (sa (sa (sa (sa (sa (sa (sa v 91 ((rnI (v 90) n (W.2.2) A R 60).2.2.2.1)) 86 (svP P R s)) 84 (rs (rs (rs (rs G 13 0) 5 ((svN s : Nat) : Int)) 8 (((rnI (v 90) n (W.2.2) A R 60).2.1 : Nat) : Int)) 7 0)) 94 F) 93 O) 88 ((rnI (v 90) n (W.2.2) A R 60).2.2.2.2.1)) 85 ((rnI (v 90) n (W.2.2) A R 60).2.2.2.2.2)) 0 0)) 60 (fun i hi ih => ?_)
  have hq := rnI_bd (U := v 90) (H := W.2.2) (A := A) (R := R) hn i
  have hct := rnI_ct (U := v 90) (n := n) (H := W.2.2) (A := A) (R := R) i
  refine M_iload_n (pc := 31) C dX8_run_31 rfl ?_
  refine M_if_eq (pc := 32) C (tgt := 89) (Bi_i32 _) dX8_run_32 (by decide) (fun h_32 => ?_) (fun h_32 => ?_)
  · have b_32 := Bi_eq0 h_32
    have hC : rnC n (rnI (v 90) n (W.2.2) A R i) = false := by unfold rnC; rw [b_32, Bool.false_and]
    refine M_aload_n (pc := 89) C dX8_run_89 rfl (by decide) ?_
    refine M_iconst (pc := 90) C dX8_run_90 ?_
    refine A_putI (pc := 91) C fl_X8_164 rfl (by decide) (a := 84) rfl (tt_84 hT) (by omega) dX8_run_91 ?_
    refine M.to (pc := 94) (v2 := sa (sa (sa (sa (sa (sa (sa v 91 ((rnI (v 90) n (W.2.2) A R i).2.2.2.1)) 86 (svP P R s)) 84 (rs (rs G2 8 (((rnI (v 90) n (W.2.2) A R i).2.1 : Nat) : Int)) 7 0)) 94 F) 93 O) 88 ((rnI (v 90) n (W.2.2) A R i).2.2.2.2.1)) 85 ((rnI (v 90) n (W.2.2) A R i).2.2.2.2.2)) ?_ rfl rfl (by rw [sa_up1 (by decide), sa_up1 (by decide), sa_up1 (by decide), sa_up1 (by decide), sa_up0])
    refine M_iload_n (pc := 94) C dX8_run_94 rfl ?_
    exact M_iret (pc := 95) C rfl dX8_run_95 (by rw [rnI_e hC (by omega)]) (by rw [rnI_e hC (by omega), hG2])
  · have b_32 := Bi_ne0 h_32
    refine M_aload_n (pc := 35) C dX8_run_35 rfl (by decide) ?_
    refine A_getI (pc := 36) C fl_X8_167 rfl (a := 84) rfl (tt_84 hT) dX8_run_36 (fun (r_36 : i32 ((rs G2 8 (((rnI (v 90) n (W.2.2) A R i).2.1 : Nat) : Int)) 8)) => ?_)
    refine M.to (pc := 39) (st2 := [vI ((rs G2 8 (((rnI (v 90) n (W.2.2) A R i).2.1 : Nat) : Int)) 8)]) ?_ rfl rfl rfl
    refine M.to (pc := 39) (st2 := [vI (((rnI (v 90) n (W.2.2) A R i).2.1 : Nat) : Int)]) ?_ rfl (by rw [rs_eq]) rfl
    refine M_aload_n (pc := 39) C dX8_run_39 rfl (by decide) ?_
    refine A_getI (pc := 40) C fl_X8_164 rfl (a := 84) rfl (tt_84 hT) dX8_run_40 (fun (r_40 : i32 ((rs G2 8 (((rnI (v 90) n (W.2.2) A R i).2.1 : Nat) : Int)) 7)) => ?_)
    refine M.to (pc := 43) (st2 := [vI ((rs G2 8 (((rnI (v 90) n (W.2.2) A R i).2.1 : Nat) : Int)) 7), vI (((rnI (v 90) n (W.2.2) A R i).2.1 : Nat) : Int)]) ?_ rfl rfl rfl
    refine M.to (pc := 43) (st2 := [vI ((n : Nat) : Int), vI (((rnI (v 90) n (W.2.2) A R i).2.1 : Nat) : Int)]) ?_ rfl (by rw [rs_ne (by decide), hl2]) rfl
    refine M_icmp_ge (pc := 43) C (tgt := 89) (by omega) (by omega) dX8_run_43 (by decide) (fun h_43 => ?_) (fun h_43 => ?_)
    · have hC : rnC n (rnI (v 90) n (W.2.2) A R i) = false := by unfold rnC; rw [decide_eq_false (by omega), Bool.and_false]
      refine M_aload_n (pc := 89) C dX8_run_89 rfl (by decide) ?_
      refine M_iconst (pc := 90) C dX8_run_90 ?_
      refine A_putI (pc := 91) C fl_X8_164 rfl (by decide) (a := 84) rfl (tt_84 hT) (by omega) dX8_run_91 ?_
      refine M.to (pc := 94) (v2 := sa (sa (sa (sa (sa (sa (sa v 91 ((rnI (v 90) n (W.2.2) A R i).2.2.2.1)) 86 (svP P R s)) 84 (rs (rs G2 8 (((rnI (v 90) n (W.2.2) A R i).2.1 : Nat) : Int)) 7 0)) 94 F) 93 O) 88 ((rnI (v 90) n (W.2.2) A R i).2.2.2.2.1)) 85 ((rnI (v 90) n (W.2.2) A R i).2.2.2.2.2)) ?_ rfl rfl (by rw [sa_up1 (by decide), sa_up1 (by decide), sa_up1 (by decide), sa_up1 (by decide), sa_up0])
      refine M_iload_n (pc := 94) C dX8_run_94 rfl ?_
      exact M_iret (pc := 95) C rfl dX8_run_95 (by rw [rnI_e hC (by omega)]) (by rw [rnI_e hC (by omega), hG2])
    · have hC : rnC n (rnI (v 90) n (W.2.2) A R i) = true := by unfold rnC; rw [b_32, decide_eq_true (by omega)]; rfl
      obtain ⟨k1, k2, k3, k4, k5, k6, hi32⟩ := hO i hC
      have hpp := pRp_bd (U := v 90) (H := (rnI (v 90) n (W.2.2) A R i).2.2.2.1) (show (rnI (v 90) n (W.2.2) A R i).2.1 ≤ n by omega)
      refine M_aload_n (pc := 46) C dX8_run_46 rfl (by decide) ?_
      refine M_aload_n (pc := 47) C dX8_run_47 rfl (by decide) ?_
      refine M.to (v2 := sa (sa (sa (sa (sa (sa (sa (sa (sa v 91 ((rnI (v 90) n (W.2.2) A R i).2.2.2.1)) 86 (svP P R s)) 84 (rs G2 8 (((rnI (v 90) n (W.2.2) A R i).2.1 : Nat) : Int))) 94 F) 93 O) 88 ((rnI (v 90) n (W.2.2) A R i).2.2.2.2.1)) 85 ((rnI (v 90) n (W.2.2) A R i).2.2.2.2.2)) 91 ((rnI (v 90) n (W.2.2) A R i).2.2.2.1)) 84 (rs G2 8 (((rnI (v 90) n (W.2.2) A R i).2.1 : Nat) : Int))) ?_ rfl rfl (sa_self2 _ 91 84)
      refine A_cV (pc := 48) C (x := vI (pRk ((sa (sa (sa (sa (sa (sa (sa v 91 ((rnI (v 90) n (W.2.2) A R i).2.2.2.1)) 86 (svP P R s)) 84 (rs G2 8 (((rnI (v 90) n (W.2.2) A R i).2.1 : Nat) : Int))) 94 F) 93 O) 88 ((rnI (v 90) n (W.2.2) A R i).2.2.2.2.1)) 85 ((rnI (v 90) n (W.2.2) A R i).2.2.2.2.2)) 90) n ((rnI (v 90) n (W.2.2) A R i).2.1) ((rnI (v 90) n (W.2.2) A R i).2.2.2.1))) (a := 84) (c := 8) (c_X8_reading hT (v := sa (sa (sa (sa (sa (sa (sa v 91 ((rnI (v 90) n (W.2.2) A R i).2.2.2.1)) 86 (svP P R s)) 84 (rs G2 8 (((rnI (v 90) n (W.2.2) A R i).2.1 : Nat) : Int))) 94 F) 93 O) 88 ((rnI (v 90) n (W.2.2) A R i).2.2.2.2.1)) 85 ((rnI (v 90) n (W.2.2) A R i).2.2.2.2.2)) (H := (rnI (v 90) n (W.2.2) A R i).2.2.2.1) (G := G2) (n := n) (p := (rnI (v 90) n (W.2.2) A R i).2.1) hl2 hn (by omega)) yw_X8_reading lk_X8_185 rfl (congrArg Prod.fst (tt_84 hT)) hc_8 rfl dX8_run_48 rfl (Nat.le_of_ble_eq_true rfl) (by decide) ⟨Nat.le_refl _, Nat.le_refl _⟩ ?_
      have hrk_48 := pRk_bd (U := ((sa (sa (sa (sa (sa (sa (sa v 91 ((rnI (v 90) n (W.2.2) A R i).2.2.2.1)) 86 (svP P R s)) 84 (rs G2 8 (((rnI (v 90) n (W.2.2) A R i).2.1 : Nat) : Int))) 94 F) 93 O) 88 ((rnI (v 90) n (W.2.2) A R i).2.2.2.2.1)) 85 ((rnI (v 90) n (W.2.2) A R i).2.2.2.2.2)) 90)) (n := n) (p := (rnI (v 90) n (W.2.2) A R i).2.1) (H := (rnI (v 90) n (W.2.2) A R i).2.2.2.1)
      refine M.to (st2 := [vI (rnX (v 90) n (rnI (v 90) n (W.2.2) A R i)), vR 84]) (v2 := sa (sa (sa (sa (sa (sa (sa v 91 (rnH (v 90) n (rnI (v 90) n (W.2.2) A R i))) 86 (svP P R s)) 84 (rs G2 8 ((pRp (v 90) n (rnI (v 90) n (W.2.2) A R i).2.1 (rnI (v 90) n (W.2.2) A R i).2.2.2.1 : Nat) : Int))) 94 F) 93 O) 88 ((rnI (v 90) n (W.2.2) A R i).2.2.2.2.1)) 85 ((rnI (v 90) n (W.2.2) A R i).2.2.2.2.2)) ?_ rfl rfl (by rw [sa_sa1 (a := 85) (b := 91) (by decide), sa_sa1 (a := 88) (b := 91) (by decide), sa_sa1 (a := 93) (b := 91) (by decide), sa_sa1 (a := 94) (b := 91) (by decide), sa_sa1 (a := 84) (b := 91) (by decide), sa_sa1 (a := 86) (b := 91) (by decide), sa_sa0 (a := 91), sa_sa1 (a := 85) (b := 84) (by decide), sa_sa1 (a := 88) (b := 84) (by decide), sa_sa1 (a := 93) (b := 84) (by decide), sa_sa1 (a := 94) (b := 84) (by decide), sa_sa0 (a := 84)] <;> rfl)
      refine A_cV (pc := 51) C (x := vI (rnV (v 90) n (rnI (v 90) n (W.2.2) A R i))) (a := 84) (c := 8) (c_X8_does hT (v := sa (sa (sa (sa (sa v 91 (rnH (v 90) n (rnI (v 90) n (W.2.2) A R i))) 86 (svP P R s)) 84 (rs G2 8 ((pRp (v 90) n (rnI (v 90) n (W.2.2) A R i).2.1 (rnI (v 90) n (W.2.2) A R i).2.2.2.1 : Nat) : Int))) 94 F) 93 O) (A := (rnI (v 90) n (W.2.2) A R i).2.2.2.2.1) (R := (rnI (v 90) n (W.2.2) A R i).2.2.2.2.2) (x := rnX (v 90) n (rnI (v 90) n (W.2.2) A R i)) (a := (rnH (v 90) n (rnI (v 90) n (W.2.2) A R i) 0).toNat) (b := (rnH (v 90) n (rnI (v 90) n (W.2.2) A R i) 1).toNat) k6 k1 (show rnH (v 90) n (rnI (v 90) n (W.2.2) A R i) 0 = (((rnH (v 90) n (rnI (v 90) n (W.2.2) A R i) 0).toNat : Nat) : Int) by omega) (show rnH (v 90) n (rnI (v 90) n (W.2.2) A R i) 1 = (((rnH (v 90) n (rnI (v 90) n (W.2.2) A R i) 1).toNat : Nat) : Int) by omega) (by omega) (by omega) (fun h => by have := k4 h; omega) (fun h => by have := k5 h; omega)) yw_X8_does lk_X8_192 rfl (congrArg Prod.fst (tt_84 hT)) hc_8 rfl dX8_run_51 rfl (Nat.le_of_ble_eq_true rfl) (by decide) ⟨Nat.le_refl _, Nat.le_refl _⟩ ?_
      refine M_iconst (pc := 54) C dX8_run_54 ?_
      refine T_icmp_eq (pc := 55) C (by omega) (by omega) dX8_run_55 dX8_run_58 dX8_run_59 dX8_run_62 ?_
      refine M_istore_n (pc := 63) C dX8_run_63 (by decide) ?_
      refine M_iload_n (pc := 64) C dX8_run_64 rfl ?_
      refine M_iload_n (pc := 65) C dX8_run_65 rfl ?_
      refine T_eq (pc := 66) C dX8_run_66 dX8_run_69 dX8_run_70 dX8_run_73 ?_
      refine M_iadd (pc := 74) C dX8_run_74 ?_
      refine M.to (st2 := [vI (((rnI (v 90) n (W.2.2) A R i).2.2.1 + (if rnV (v 90) n (rnI (v 90) n (W.2.2) A R i) ≠ -1 then 1 else 0) : Nat) : Int)]) ?_ rfl (by rw [bi_ct]) rfl
      refine M_istore_n (pc := 75) C dX8_run_75 (by decide) ?_
      refine M_aload_n (pc := 76) C dX8_run_76 rfl (by decide) ?_
      refine M_dup (pc := 77) C rfl dX8_run_77 ?_
      refine A_getI (pc := 78) C fl_X8_167 rfl (a := 84) rfl (tt_84 hT) dX8_run_78 (fun (r_78 : i32 ((rs G2 8 ((pRp (v 90) n (rnI (v 90) n (W.2.2) A R i).2.1 (rnI (v 90) n (W.2.2) A R i).2.2.2.1 : Nat) : Int)) 8)) => ?_)
      refine M.to (pc := 81) (st2 := [vI ((rs G2 8 ((pRp (v 90) n (rnI (v 90) n (W.2.2) A R i).2.1 (rnI (v 90) n (W.2.2) A R i).2.2.2.1 : Nat) : Int)) 8), vR 84]) ?_ rfl rfl rfl
      refine M.to (pc := 81) (st2 := [vI ((pRp (v 90) n (rnI (v 90) n (W.2.2) A R i).2.1 (rnI (v 90) n (W.2.2) A R i).2.2.2.1 : Nat) : Int), vR 84]) ?_ rfl (by rw [rs_eq]) rfl
      refine M_iconst (pc := 81) C dX8_run_81 ?_
      refine M_iadd (pc := 82) C dX8_run_82 ?_
      refine A_putI (pc := 83) C fl_X8_167 rfl (by decide) (a := 84) rfl (tt_84 hT) (by omega) dX8_run_83 ?_
      refine M.to (pc := 86) (v2 := sa (sa (sa (sa (sa (sa (sa v 91 (rnH (v 90) n (rnI (v 90) n (W.2.2) A R i))) 86 (svP P R s)) 84 (rs (rs G2 8 ((pRp (v 90) n (rnI (v 90) n (W.2.2) A R i).2.1 (rnI (v 90) n (W.2.2) A R i).2.2.2.1 : Nat) : Int)) 8 (((pRp (v 90) n (rnI (v 90) n (W.2.2) A R i).2.1 (rnI (v 90) n (W.2.2) A R i).2.2.2.1 : Nat) : Int) + 1))) 94 F) 93 O) 88 (doA ((rnI (v 90) n (W.2.2) A R i).2.2.2.2.1) ((rnI (v 90) n (W.2.2) A R i).2.2.2.2.2) (rnX (v 90) n (rnI (v 90) n (W.2.2) A R i)) ((rnH (v 90) n (rnI (v 90) n (W.2.2) A R i) 0).toNat))) 85 (doR ((rnI (v 90) n (W.2.2) A R i).2.2.2.2.2) (rnX (v 90) n (rnI (v 90) n (W.2.2) A R i)) ((rnH (v 90) n (rnI (v 90) n (W.2.2) A R i) 0).toNat) ((rnH (v 90) n (rnI (v 90) n (W.2.2) A R i) 1).toNat))) ?_ rfl rfl (by rw [sa_up1 (by decide), sa_up1 (by decide), sa_up1 (by decide), sa_up1 (by decide), sa_up0])
      refine M.to (pc := 86) (v2 := sa (sa (sa (sa (sa (sa (sa v 91 (rnH (v 90) n (rnI (v 90) n (W.2.2) A R i))) 86 (svP P R s)) 84 (rs G2 8 (((pRp (v 90) n (rnI (v 90) n (W.2.2) A R i).2.1 (rnI (v 90) n (W.2.2) A R i).2.2.2.1) + 1 : Nat) : Int))) 94 F) 93 O) 88 (doA ((rnI (v 90) n (W.2.2) A R i).2.2.2.2.1) ((rnI (v 90) n (W.2.2) A R i).2.2.2.2.2) (rnX (v 90) n (rnI (v 90) n (W.2.2) A R i)) ((rnH (v 90) n (rnI (v 90) n (W.2.2) A R i) 0).toNat))) 85 (doR ((rnI (v 90) n (W.2.2) A R i).2.2.2.2.2) (rnX (v 90) n (rnI (v 90) n (W.2.2) A R i)) ((rnH (v 90) n (rnI (v 90) n (W.2.2) A R i) 0).toNat) ((rnH (v 90) n (rnI (v 90) n (W.2.2) A R i) 1).toNat))) ?_ rfl rfl (by rw [rs_rs]; rfl)
      refine M_goto (pc := 86) C (tgt := 31) dX8_run_86 (by decide) ?_
      exact M.to (ih (by have := rnI_mu hC; omega)) (by rw [rnI_s hC]; rfl) rfl (by rw [rnI_s hC]; rfl)
