theorem c_X8_spoil_b1 {N : Nat} {T : Ty} {G : Nat → Int} {x : Int} {v : Ct} (hT : TT T) (hx : i32 x) (hb : inB x 0 23 = false) : Runs mX8_spoil 1 0 0 [vR 84, vI x] N T (sa v 84 G) (some (vI 0)) N T (sa v 84 (rs G 13 1)) := by
  refine Runs.of (by decide) (Nat.le_of_ble_eq_true rfl) fun κ C => ?_
  refine M_aload_n (pc := 0) C dX8_spoil_0 rfl (by decide) ?_
  refine M_iconst (pc := 1) C dX8_spoil_1 ?_
  refine A_putI (pc := 2) C fl_X8_41 rfl (by decide) (a := 84) rfl (tt_84 hT) (by omega) dX8_spoil_2 ?_
  refine M.to (pc := 5) (v2 := sa v 84 (rs G 13 0)) ?_ rfl rfl (by rw [sa_up0])
  refine M_iload_n (pc := 5) C dX8_spoil_5 rfl ?_
  refine M_iconst (pc := 6) C dX8_spoil_6 ?_
  refine M_bipush (pc := 7) C (by decide) dX8_spoil_7 ?_
  refine A_cS (pc := 9) C (x := vI (Bi (inB x 0 23))) (c_X8_in hT (x := x) (a := 0) (b := 23) (by omega) (by omega) (by omega)) yw_X8_in lk_X8_45 rfl dX8_spoil_9 rfl (Nat.le_of_ble_eq_true rfl) (by decide) ⟨Nat.le_refl _, Nat.le_refl _⟩ ?_
  refine M_if_ne (pc := 12) C (tgt := 21) (Bi_i32 _) dX8_spoil_12 (by decide) (fun h => absurd hb (by rw [Bi_ne0 h]; decide)) (fun _ => ?_)
  refine M_aload_n (pc := 15) C dX8_spoil_15 rfl (by decide) ?_
  refine M_iconst (pc := 16) C dX8_spoil_16 ?_
  refine A_cV (pc := 17) C (x := vI 0) (a := 84) (c := 8) (c_X8_fails hT (x := 1) (by decide)) yw_X8_fails lk_X8_81 rfl (congrArg Prod.fst (tt_84 hT)) hc_8 rfl dX8_spoil_17 rfl (Nat.le_of_ble_eq_true rfl) (by decide) ⟨Nat.le_refl _, Nat.le_refl _⟩ ?_
  refine M.to (v2 := sa v 84 (rs (rs G 13 0) 13 1)) ?_ rfl rfl (by rw [sa_up0])
  exact M_iret (pc := 20) C rfl dX8_spoil_20 rfl (by rw [rs_rs])
theorem c_X8_spoil_b2 {N : Nat} {T : Ty} {G : Nat → Int} {b : Nat} {v : Ct} (hT : TT T) (hb : b < 24) (h3 : v 85 (3 + b) = 3) : Runs mX8_spoil 1 0 0 [vR 84, vI ((b : Nat) : Int)] N T (sa v 84 G) (some (vI 0)) N T (sa v 84 (rs G 13 2)) := by
  have hin : inB ((b : Nat) : Int) 0 23 = true := inB_t (by omega) (by omega)
  refine Runs.of (by decide) (Nat.le_of_ble_eq_true rfl) fun κ C => ?_
  refine M_aload_n (pc := 0) C dX8_spoil_0 rfl (by decide) ?_
  refine M_iconst (pc := 1) C dX8_spoil_1 ?_
  refine A_putI (pc := 2) C fl_X8_41 rfl (by decide) (a := 84) rfl (tt_84 hT) (by omega) dX8_spoil_2 ?_
  refine M.to (pc := 5) (v2 := sa v 84 (rs G 13 0)) ?_ rfl rfl (by rw [sa_up0])
  refine M_iload_n (pc := 5) C dX8_spoil_5 rfl ?_
  refine M_iconst (pc := 6) C dX8_spoil_6 ?_
  refine M_bipush (pc := 7) C (by decide) dX8_spoil_7 ?_
  refine A_cS (pc := 9) C (x := vI (Bi (inB ((b : Nat) : Int) 0 23))) (c_X8_in hT (x := ((b : Nat) : Int)) (a := 0) (b := 23) (by omega) (by omega) (by omega)) yw_X8_in lk_X8_45 rfl dX8_spoil_9 rfl (Nat.le_of_ble_eq_true rfl) (by decide) ⟨Nat.le_refl _, Nat.le_refl _⟩ ?_
  refine M_if_ne (pc := 12) C (tgt := 21) (Bi_i32 _) dX8_spoil_12 (by decide) (fun _ => ?_) (fun h => absurd hin (by rw [Bi_eq0 h]; decide))
  refine M_aload_n (pc := 21) C dX8_spoil_21 rfl (by decide) ?_
  refine A_getR (pc := 22) C fl_X8_7 rfl (a := 84) (j := 85) rfl (tt_84 hT) rfl dX8_spoil_22 ?_
  refine M_iconst (pc := 25) C dX8_spoil_25 ?_
  refine M_iload_n (pc := 26) C dX8_spoil_26 rfl ?_
  refine M_iadd (pc := 27) C dX8_spoil_27 ?_
  refine A_iald (pc := 28) C (a := 85) (q := (3 + b)) rfl (tt_85 hT) (by decide) (by omega) (by omega) dX8_spoil_28 (fun (r_28 : i32 (v 85 (3 + b))) => ?_)
  refine M.to (pc := 29) (st2 := [vI (v 85 (3 + b))]) ?_ rfl rfl rfl
  refine M_iconst (pc := 29) C dX8_spoil_29 ?_
  refine M_icmp_ne (pc := 30) C (tgt := 39) (by omega) (by omega) dX8_spoil_30 (by decide) (fun h_30 => ?_) (fun h_30 => ?_)
  · exfalso
    omega
  · refine M_aload_n (pc := 33) C dX8_spoil_33 rfl (by decide) ?_
    refine M_iconst (pc := 34) C dX8_spoil_34 ?_
    refine A_cV (pc := 35) C (x := vI 0) (a := 84) (c := 8) (c_X8_fails hT (x := 2) (by decide)) yw_X8_fails lk_X8_81 rfl (congrArg Prod.fst (tt_84 hT)) hc_8 rfl dX8_spoil_35 rfl (Nat.le_of_ble_eq_true rfl) (by decide) ⟨Nat.le_refl _, Nat.le_refl _⟩ ?_
    refine M.to (v2 := sa v 84 (rs (rs G 13 0) 13 2)) ?_ rfl rfl (by rw [sa_up0])
    exact M_iret (pc := 38) C rfl dX8_spoil_38 rfl (by rw [rs_rs])
theorem c_X8_spoil {N : Nat} {T : Ty} {P G F O A R : Nat → Int} {s b : Nat} {v : Ct} (hT : TT T) (hs : G 5 = (s : Int)) (hs6 : s ≤ 6) (hI : RI R) (hb : b < 24) (h3 : R (3 + b) ≠ 3) : Runs mX8_spoil 4 0 0 [vR 84, vI ((b : Nat) : Int)] N T (sa (sa (sa (sa (sa (sa v 86 P) 84 G) 94 F) 93 O) 88 A) 85 R) (some (vI (spV R ((b : Nat) : Int) 10))) N T (sa (sa (sa (sa (sa (sa v 86 (svP P R s)) 84 (rs (rs G 13 0) 5 ((svN s : Nat) : Int))) 94 F) 93 O) 88 A) 85 (rs (spN R ((b : Nat) : Int) 10) (3 + b) 3)) := by
  have hin : inB ((b : Nat) : Int) 0 23 = true := inB_t (by omega) (by omega)
  refine Runs.of (by decide) (Nat.le_of_ble_eq_true rfl) fun κ C => ?_
  refine M_aload_n (pc := 0) C dX8_spoil_0 rfl (by decide) ?_
  refine M_iconst (pc := 1) C dX8_spoil_1 ?_
  refine A_putI (pc := 2) C fl_X8_41 rfl (by decide) (a := 84) rfl (tt_84 hT) (by omega) dX8_spoil_2 ?_
  refine M.to (pc := 5) (v2 := sa (sa (sa (sa (sa (sa v 86 P) 84 (rs G 13 0)) 94 F) 93 O) 88 A) 85 R) ?_ rfl rfl (by rw [sa_up1 (by decide), sa_up1 (by decide), sa_up1 (by decide), sa_up1 (by decide), sa_up0])
  refine M_iload_n (pc := 5) C dX8_spoil_5 rfl ?_
  refine M_iconst (pc := 6) C dX8_spoil_6 ?_
  refine M_bipush (pc := 7) C (by decide) dX8_spoil_7 ?_
  refine A_cS (pc := 9) C (x := vI (Bi (inB ((b : Nat) : Int) 0 23))) (c_X8_in hT (x := ((b : Nat) : Int)) (a := 0) (b := 23) (by omega) (by omega) (by omega)) yw_X8_in lk_X8_45 rfl dX8_spoil_9 rfl (Nat.le_of_ble_eq_true rfl) (by decide) ⟨Nat.le_refl _, Nat.le_refl _⟩ ?_
  refine M_if_ne (pc := 12) C (tgt := 21) (Bi_i32 _) dX8_spoil_12 (by decide) (fun _ => ?_) (fun h => absurd hin (by rw [Bi_eq0 h]; decide))
  refine M_aload_n (pc := 21) C dX8_spoil_21 rfl (by decide) ?_
  refine A_getR (pc := 22) C fl_X8_7 rfl (a := 84) (j := 85) rfl (tt_84 hT) rfl dX8_spoil_22 ?_
  refine M_iconst (pc := 25) C dX8_spoil_25 ?_
  refine M_iload_n (pc := 26) C dX8_spoil_26 rfl ?_
  refine M_iadd (pc := 27) C dX8_spoil_27 ?_
  refine A_iald (pc := 28) C (a := 85) (q := (3 + b)) rfl (tt_85 hT) (by decide) (by omega) (by omega) dX8_spoil_28 (fun (r_28 : i32 (R (3 + b))) => ?_)
  refine M.to (pc := 29) (st2 := [vI (R (3 + b))]) ?_ rfl rfl rfl
  refine M_iconst (pc := 29) C dX8_spoil_29 ?_
  refine M_icmp_ne (pc := 30) C (tgt := 39) (by omega) (by omega) dX8_spoil_30 (by decide) (fun h_30 => ?_) (fun h_30 => ?_)
  · refine M_aload_n (pc := 39) C dX8_spoil_39 rfl (by decide) ?_
    refine A_cVv (pc := 40) C (a := 84) (c := 8) (c_X8_save hT (v := v) (P := P) (G := rs G 13 0) (F := F) (O := O) (A := A) (R := R) (s := s) (by rw [rs_ne (by decide)]; exact hs) hs6) yw_X8_save lk_X8_87 rfl (congrArg Prod.fst (tt_84 hT)) hc_8 rfl dX8_spoil_40 rfl (Nat.le_of_ble_eq_true rfl) (by decide) ⟨Nat.le_refl _, Nat.le_refl _⟩ ?_
    refine M_iconst (pc := 43) C dX8_spoil_43 ?_
    refine M_istore_n (pc := 44) C dX8_spoil_44 (by decide) ?_
    refine M_iconst (pc := 45) C dX8_spoil_45 ?_
    refine M_istore_n (pc := 46) C dX8_spoil_46 (by decide) ?_
    refine loop_le (P := fun i => M κ N T 47 [some (vR 84), some (vI ((b : Nat) : Int)), some (vI (spV R ((b : Nat) : Int) i)), some (vI ((i : Nat) : Int))] [] (sa (sa (sa (sa (sa (sa v 86 (svP P R s)) 84 (rs (rs G 13 0) 5 ((svN s : Nat) : Int))) 94 F) 93 O) 88 A) 85 (spN R ((b : Nat) : Int) i)) 0 0 (QR κ (some (vI (spV R ((b : Nat) : Int) 10))) N T (sa (sa (sa (sa (sa (sa v 86 (svP P R s)) 84 (rs (rs G 13 0) 5 ((svN s : Nat) : Int))) 94 F) 93 O) 88 A) 85 (rs (spN R ((b : Nat) : Int) 10) (3 + b) 3)) 0 0)) 10 (fun i hi ih => ?_)
    have hIi := RI_spN hI ((b : Nat) : Int) hi
    refine M_iload_n (pc := 47) C dX8_spoil_47 rfl ?_
    refine M_bipush (pc := 48) C (by decide) dX8_spoil_48 ?_
    refine M_icmp_ge (pc := 50) C (tgt := 87) (by omega) (by omega) dX8_spoil_50 (by decide) (fun h_50 => ?_) (fun h_50 => ?_)
    · have hi10 : i = 10 := by omega
      subst hi10
      refine M_aload_n (pc := 87) C dX8_spoil_87 rfl (by decide) ?_
      refine A_getR (pc := 88) C fl_X8_7 rfl (a := 84) (j := 85) rfl (tt_84 hT) rfl dX8_spoil_88 ?_
      refine M_iconst (pc := 91) C dX8_spoil_91 ?_
      refine M_iload_n (pc := 92) C dX8_spoil_92 rfl ?_
      refine M_iadd (pc := 93) C dX8_spoil_93 ?_
      refine M_iconst (pc := 94) C dX8_spoil_94 ?_
      refine A_iast (pc := 95) C (a := 85) (q := (3 + b)) rfl (tt_85 hT) (by decide) (by omega) (by omega) (by omega) dX8_spoil_95 ?_
      refine M.to (pc := 96) (v2 := sa (sa (sa (sa (sa (sa v 86 (svP P R s)) 84 (rs (rs G 13 0) 5 ((svN s : Nat) : Int))) 94 F) 93 O) 88 A) 85 (rs (spN R ((b : Nat) : Int) 10) (3 + b) 3)) ?_ rfl rfl (by rw [sa_up0])
      refine M_iload_n (pc := 96) C dX8_spoil_96 rfl ?_
      exact M_iret (pc := 97) C rfl dX8_spoil_97 rfl rfl
    · refine M_aload_n (pc := 53) C dX8_spoil_53 rfl (by decide) ?_
      refine M_iload_n (pc := 54) C dX8_spoil_54 rfl ?_
      refine M_iload_n (pc := 55) C dX8_spoil_55 rfl ?_
      refine A_cV (pc := 56) C (x := vI (Bi (hasIn (spN R ((b : Nat) : Int) i) i ((b : Nat) : Int)))) (a := 84) (c := 8) (c_X8_hasIn hT hIi (f := i) (b := ((b : Nat) : Int)) (by omega) (by omega)) yw_X8_hasIn lk_X8_143 rfl (congrArg Prod.fst (tt_84 hT)) hc_8 rfl dX8_spoil_56 rfl (Nat.le_of_ble_eq_true rfl) (by decide) ⟨Nat.le_refl _, Nat.le_refl _⟩ ?_
      refine M_if_eq (pc := 59) C (tgt := 81) (Bi_i32 _) dX8_spoil_59 (by decide) (fun h_59 => ?_) (fun h_59 => ?_)
      · have b_59 := Bi_eq0 h_59
        have hsp : spC (spN R ((b : Nat) : Int) i) ((b : Nat) : Int) i = false := spC_no (Or.inl b_59)
        refine M_iinc (pc := 81) C dX8_spoil_81 rfl (by decide) ?_
        refine M_goto (pc := 84) C (tgt := 47) dX8_spoil_84 (by decide) ?_
        exact M.to (ih (by omega)) (by first | (show _ = [some (vR 84), some (vI ((b : Nat) : Int)), some (vI (sumN _ (i + 1))), some (vI ((i + 1 : Nat) : Int))]; rw [sumN_0 (by show Bi _ = 0; rw [hsp]; rfl)]; rfl) | (show _ = [some (vR 84), some (vI ((b : Nat) : Int)), some (vI (sumN _ (i + 1))), some (vI ((i + 1 : Nat) : Int))]; rw [sumN_s (x := 1) (by show Bi _ = 1; rw [hsp]; rfl)]; rfl)) rfl (by first | (rw [spN_f hsp]) | (rw [spN_t hsp]))
      · have b_59 := Bi_ne0 h_59
        refine M_aload_n (pc := 62) C dX8_spoil_62 rfl (by decide) ?_
        refine M_iload_n (pc := 63) C dX8_spoil_63 rfl ?_
        refine M_iconst (pc := 64) C dX8_spoil_64 ?_
        refine A_cV (pc := 65) C (x := vI (ro (spN R ((b : Nat) : Int) i) i 2)) (a := 84) (c := 8) (c_X8_of (f := i) (w := 2) hT (by omega)) yw_X8_of lk_X8_49 rfl (congrArg Prod.fst (tt_84 hT)) hc_8 rfl dX8_spoil_65 rfl (Nat.le_of_ble_eq_true rfl) (by decide) ⟨Nat.le_refl _, Nat.le_refl _⟩ ?_
        refine M_rd (pc := 68) C 85 (27 + 18 * i + 2) (fun (r_65_0 : i32 (ro (spN R ((b : Nat) : Int) i) i 2)) => ?_)
        refine M_if_ne (pc := 68) C (tgt := 81) (by omega) dX8_spoil_68 (by decide) (fun h_68 => ?_) (fun h_68 => ?_)
        · have hsp : spC (spN R ((b : Nat) : Int) i) ((b : Nat) : Int) i = false := spC_no (Or.inr h_68)
          refine M_iinc (pc := 81) C dX8_spoil_81 rfl (by decide) ?_
          refine M_goto (pc := 84) C (tgt := 47) dX8_spoil_84 (by decide) ?_
          exact M.to (ih (by omega)) (by first | (show _ = [some (vR 84), some (vI ((b : Nat) : Int)), some (vI (sumN _ (i + 1))), some (vI ((i + 1 : Nat) : Int))]; rw [sumN_0 (by show Bi _ = 0; rw [hsp]; rfl)]; rfl) | (show _ = [some (vR 84), some (vI ((b : Nat) : Int)), some (vI (sumN _ (i + 1))), some (vI ((i + 1 : Nat) : Int))]; rw [sumN_s (x := 1) (by show Bi _ = 1; rw [hsp]; rfl)]; rfl)) rfl (by first | (rw [spN_f hsp]) | (rw [spN_t hsp]))
        · have hsp : spC (spN R ((b : Nat) : Int) i) ((b : Nat) : Int) i = true := spC_yes b_59 h_68
          refine M_aload_n (pc := 71) C dX8_spoil_71 rfl (by decide) ?_
          refine M_iload_n (pc := 72) C dX8_spoil_72 rfl ?_
          refine M_iconst (pc := 73) C dX8_spoil_73 ?_
          refine M_iconst (pc := 74) C dX8_spoil_74 ?_
          refine A_cVv (pc := 75) C (a := 84) (c := 8) (c_X8_lay (f := i) (w := 2) hT (by omega) (by decide)) yw_X8_lay lk_X8_96 rfl (congrArg Prod.fst (tt_84 hT)) hc_8 rfl dX8_spoil_75 rfl (Nat.le_of_ble_eq_true rfl) (by decide) ⟨Nat.le_refl _, Nat.le_refl _⟩ ?_
          refine M.to (v2 := sa (sa (sa (sa (sa (sa v 86 (svP P R s)) 84 (rs (rs G 13 0) 5 ((svN s : Nat) : Int))) 94 F) 93 O) 88 A) 85 (rs (spN R ((b : Nat) : Int) i) (27 + 18 * i + 2) 1)) ?_ rfl rfl (by rw [sa_up0])
          refine M_iinc (pc := 78) C dX8_spoil_78 rfl (by decide) ?_
          refine M_iinc (pc := 81) C dX8_spoil_81 rfl (by decide) ?_
          refine M_goto (pc := 84) C (tgt := 47) dX8_spoil_84 (by decide) ?_
          exact M.to (ih (by omega)) (by first | (show _ = [some (vR 84), some (vI ((b : Nat) : Int)), some (vI (sumN _ (i + 1))), some (vI ((i + 1 : Nat) : Int))]; rw [sumN_0 (by show Bi _ = 0; rw [hsp]; rfl)]; rfl) | (show _ = [some (vR 84), some (vI ((b : Nat) : Int)), some (vI (sumN _ (i + 1))), some (vI ((i + 1 : Nat) : Int))]; rw [sumN_s (x := 1) (by show Bi _ = 1; rw [hsp]; rfl)]; rfl)) rfl (by first | (rw [spN_f hsp]) | (rw [spN_t hsp]))
  · exfalso
    omega
theorem c_X8_heal_b1 {N : Nat} {T : Ty} {G : Nat → Int} {x : Int} {v : Ct} (hT : TT T) (hx : i32 x) (hb : inB x 0 23 = false) : Runs mX8_heal 1 0 0 [vR 84, vI x] N T (sa v 84 G) (some (vI 0)) N T (sa v 84 (rs G 13 1)) := by
  refine Runs.of (by decide) (Nat.le_of_ble_eq_true rfl) fun κ C => ?_
  refine M_aload_n (pc := 0) C dX8_heal_0 rfl (by decide) ?_
  refine M_iconst (pc := 1) C dX8_heal_1 ?_
  refine A_putI (pc := 2) C fl_X8_41 rfl (by decide) (a := 84) rfl (tt_84 hT) (by omega) dX8_heal_2 ?_
  refine M.to (pc := 5) (v2 := sa v 84 (rs G 13 0)) ?_ rfl rfl (by rw [sa_up0])
  refine M_iload_n (pc := 5) C dX8_heal_5 rfl ?_
  refine M_iconst (pc := 6) C dX8_heal_6 ?_
  refine M_bipush (pc := 7) C (by decide) dX8_heal_7 ?_
  refine A_cS (pc := 9) C (x := vI (Bi (inB x 0 23))) (c_X8_in hT (x := x) (a := 0) (b := 23) (by omega) (by omega) (by omega)) yw_X8_in lk_X8_45 rfl dX8_heal_9 rfl (Nat.le_of_ble_eq_true rfl) (by decide) ⟨Nat.le_refl _, Nat.le_refl _⟩ ?_
  refine M_if_ne (pc := 12) C (tgt := 21) (Bi_i32 _) dX8_heal_12 (by decide) (fun h => absurd hb (by rw [Bi_ne0 h]; decide)) (fun _ => ?_)
  refine M_aload_n (pc := 15) C dX8_heal_15 rfl (by decide) ?_
  refine M_iconst (pc := 16) C dX8_heal_16 ?_
  refine A_cV (pc := 17) C (x := vI 0) (a := 84) (c := 8) (c_X8_fails hT (x := 1) (by decide)) yw_X8_fails lk_X8_81 rfl (congrArg Prod.fst (tt_84 hT)) hc_8 rfl dX8_heal_17 rfl (Nat.le_of_ble_eq_true rfl) (by decide) ⟨Nat.le_refl _, Nat.le_refl _⟩ ?_
  refine M.to (v2 := sa v 84 (rs (rs G 13 0) 13 1)) ?_ rfl rfl (by rw [sa_up0])
  exact M_iret (pc := 20) C rfl dX8_heal_20 rfl (by rw [rs_rs])
theorem c_X8_heal_b2 {N : Nat} {T : Ty} {G : Nat → Int} {b : Nat} {v : Ct} (hT : TT T) (hI : RI (v 85)) (hb : b < 24) (h3 : hlB (v 85) b = false) : Runs mX8_heal 4 0 0 [vR 84, vI ((b : Nat) : Int)] N T (sa v 84 G) (some (vI 0)) N T (sa v 84 (rs G 13 2)) := by
  have hin : inB ((b : Nat) : Int) 0 23 = true := inB_t (by omega) (by omega)
  refine Runs.of (by decide) (Nat.le_of_ble_eq_true rfl) fun κ C => ?_
  refine M_aload_n (pc := 0) C dX8_heal_0 rfl (by decide) ?_
  refine M_iconst (pc := 1) C dX8_heal_1 ?_
  refine A_putI (pc := 2) C fl_X8_41 rfl (by decide) (a := 84) rfl (tt_84 hT) (by omega) dX8_heal_2 ?_
  refine M.to (pc := 5) (v2 := sa v 84 (rs G 13 0)) ?_ rfl rfl (by rw [sa_up0])
  refine M_iload_n (pc := 5) C dX8_heal_5 rfl ?_
  refine M_iconst (pc := 6) C dX8_heal_6 ?_
  refine M_bipush (pc := 7) C (by decide) dX8_heal_7 ?_
  refine A_cS (pc := 9) C (x := vI (Bi (inB ((b : Nat) : Int) 0 23))) (c_X8_in hT (x := ((b : Nat) : Int)) (a := 0) (b := 23) (by omega) (by omega) (by omega)) yw_X8_in lk_X8_45 rfl dX8_heal_9 rfl (Nat.le_of_ble_eq_true rfl) (by decide) ⟨Nat.le_refl _, Nat.le_refl _⟩ ?_
  refine M_if_ne (pc := 12) C (tgt := 21) (Bi_i32 _) dX8_heal_12 (by decide) (fun _ => ?_) (fun h => absurd hin (by rw [Bi_eq0 h]; decide))
  refine M_aload_n (pc := 21) C dX8_heal_21 rfl (by decide) ?_
  refine A_getR (pc := 22) C fl_X8_7 rfl (a := 84) (j := 85) rfl (tt_84 hT) rfl dX8_heal_22 ?_
  refine M_iconst (pc := 25) C dX8_heal_25 ?_
  refine M_iload_n (pc := 26) C dX8_heal_26 rfl ?_
  refine M_iadd (pc := 27) C dX8_heal_27 ?_
  refine A_iald (pc := 28) C (a := 85) (q := (3 + b)) rfl (tt_85 hT) (by decide) (by omega) (by omega) dX8_heal_28 (fun (r_28 : i32 (v 85 (3 + b))) => ?_)
  refine M.to (pc := 29) (st2 := [vI (v 85 (3 + b))]) ?_ rfl rfl rfl
  refine M_iconst (pc := 29) C dX8_heal_29 ?_
  refine T_icmp_ne (pc := 30) C (by omega) (by omega) dX8_heal_30 dX8_heal_33 dX8_heal_34 dX8_heal_37 ?_
  refine M_istore_n (pc := 38) C dX8_heal_38 (by decide) ?_
  refine M_iconst (pc := 39) C dX8_heal_39 ?_
  refine M_istore_n (pc := 40) C dX8_heal_40 (by decide) ?_
  refine M.to (L2 := [some (vR 84), some (vI ((b : Nat) : Int)), some (vI (Bi (decide ((v 85) (3 + b) = 3) && !(orN (fun f => hasIn (v 85) f ((b : Nat) : Int)) 0)))), some (vI 0)]) ?_ (by show _ = [some (vR 84), some (vI ((b : Nat) : Int)), some (vI (Bi (decide ((v 85) (3 + b) = 3) && true))), some (vI 0)]; rw [Bool.and_true]; rfl) rfl rfl
  refine loop_le (P := fun i => M κ N T 41 [some (vR 84), some (vI ((b : Nat) : Int)), some (vI (Bi (decide ((v 85) (3 + b) = 3) && !(orN (fun f => hasIn (v 85) f ((b : Nat) : Int)) i)))), some (vI ((i : Nat) : Int))] [] (sa v 84 (rs G 13 0)) 0 0 (QR κ (some (vI 0)) N T (sa v 84 (rs G 13 2)) 0 0)) 10 (fun i hi ih => ?_)
  refine M_iload_n (pc := 41) C dX8_heal_41 rfl ?_
  refine M_bipush (pc := 42) C (by decide) dX8_heal_42 ?_
  refine M_icmp_ge (pc := 44) C (tgt := 72) (by omega) (by omega) dX8_heal_44 (by decide) (fun h_44 => ?_) (fun h_44 => ?_)
  · refine M_iload_n (pc := 72) C dX8_heal_72 rfl ?_
    refine M_if_ne (pc := 73) C (tgt := 82) (Bi_i32 _) dX8_heal_73 (by decide) (fun h_73 => ?_) (fun h_73 => ?_)
    · have b_73 := Bi_ne0 h_73
      exfalso
      have hi10 : i = 10 := by omega
      subst hi10
      exact absurd h3 (by unfold hlB; rw [b_73]; decide)
    · have b_73 := Bi_eq0 h_73
      refine M_aload_n (pc := 76) C dX8_heal_76 rfl (by decide) ?_
      refine M_iconst (pc := 77) C dX8_heal_77 ?_
      refine A_cV (pc := 78) C (x := vI 0) (a := 84) (c := 8) (c_X8_fails hT (x := 2) (by decide)) yw_X8_fails lk_X8_81 rfl (congrArg Prod.fst (tt_84 hT)) hc_8 rfl dX8_heal_78 rfl (Nat.le_of_ble_eq_true rfl) (by decide) ⟨Nat.le_refl _, Nat.le_refl _⟩ ?_
      refine M.to (v2 := sa v 84 (rs (rs G 13 0) 13 2)) ?_ rfl rfl (by rw [sa_up0])
      exact M_iret (pc := 81) C rfl dX8_heal_81 rfl (by rw [rs_rs])
  · refine M_iload_n (pc := 47) C dX8_heal_47 rfl ?_
    refine M_if_eq (pc := 48) C (tgt := 64) (Bi_i32 _) dX8_heal_48 (by decide) (fun h_48 => ?_) (fun h_48 => ?_)
    · have b_48 := Bi_eq0 h_48
      refine M_iconst (pc := 64) C dX8_heal_64 ?_
      refine M_istore_n (pc := 65) C dX8_heal_65 (by decide) ?_
      refine M_iinc (pc := 66) C dX8_heal_66 rfl (by decide) ?_
      refine M_goto (pc := 69) C (tgt := 41) dX8_heal_69 (by decide) ?_
      exact M.to (ih (by omega)) (by first | (rw [andN_t b_48]; rfl) | (rw [andN_f (n := i + 1) (by omega) b_48]; rfl)) rfl rfl
    · have b_48 := Bi_ne0 h_48
      refine M_aload_n (pc := 51) C dX8_heal_51 rfl (by decide) ?_
      refine M_iload_n (pc := 52) C dX8_heal_52 rfl ?_
      refine M_iload_n (pc := 53) C dX8_heal_53 rfl ?_
      refine A_cV (pc := 54) C (x := vI (Bi (hasIn (v 85) i ((b : Nat) : Int)))) (a := 84) (c := 8) (c_X8_hasIn hT hI (f := i) (b := ((b : Nat) : Int)) (by omega) (by omega)) yw_X8_hasIn lk_X8_143 rfl (congrArg Prod.fst (tt_84 hT)) hc_8 rfl dX8_heal_54 rfl (Nat.le_of_ble_eq_true rfl) (by decide) ⟨Nat.le_refl _, Nat.le_refl _⟩ ?_
      refine T_ne (pc := 57) C dX8_heal_57 dX8_heal_60 dX8_heal_61 dX8_heal_64 ?_
      refine M_istore_n (pc := 65) C dX8_heal_65 (by decide) ?_
      refine M_iinc (pc := 66) C dX8_heal_66 rfl (by decide) ?_
      refine M_goto (pc := 69) C (tgt := 41) dX8_heal_69 (by decide) ?_
      exact M.to (ih (by omega)) (by first | (rw [andN_t b_48]; rfl) | (rw [andN_f (n := i + 1) (by omega) b_48]; rfl)) rfl rfl
theorem c_X8_heal {N : Nat} {T : Ty} {P G F O A R : Nat → Int} {s b : Nat} {v : Ct} (hT : TT T) (hs : G 5 = (s : Int)) (hs6 : s ≤ 6) (hI : RI R) (hb : b < 24) (h3 : hlB R b = true) : Runs mX8_heal 4 0 0 [vR 84, vI ((b : Nat) : Int)] N T (sa (sa (sa (sa (sa (sa v 86 P) 84 G) 94 F) 93 O) 88 A) 85 R) (some (vI (cntK (rs R (3 + b) 0) 3))) N T (sa (sa (sa (sa (sa (sa v 86 (svP P R s)) 84 (rs (rs G 13 0) 5 ((svN s : Nat) : Int))) 94 F) 93 O) 88 A) 85 (rs R (3 + b) 0)) := by
  have hin : inB ((b : Nat) : Int) 0 23 = true := inB_t (by omega) (by omega)
  refine Runs.of (by decide) (Nat.le_of_ble_eq_true rfl) fun κ C => ?_
  refine M_aload_n (pc := 0) C dX8_heal_0 rfl (by decide) ?_
  refine M_iconst (pc := 1) C dX8_heal_1 ?_
  refine A_putI (pc := 2) C fl_X8_41 rfl (by decide) (a := 84) rfl (tt_84 hT) (by omega) dX8_heal_2 ?_
  refine M.to (pc := 5) (v2 := sa (sa (sa (sa (sa (sa v 86 P) 84 (rs G 13 0)) 94 F) 93 O) 88 A) 85 R) ?_ rfl rfl (by rw [sa_up1 (by decide), sa_up1 (by decide), sa_up1 (by decide), sa_up1 (by decide), sa_up0])
  refine M_iload_n (pc := 5) C dX8_heal_5 rfl ?_
  refine M_iconst (pc := 6) C dX8_heal_6 ?_
  refine M_bipush (pc := 7) C (by decide) dX8_heal_7 ?_
  refine A_cS (pc := 9) C (x := vI (Bi (inB ((b : Nat) : Int) 0 23))) (c_X8_in hT (x := ((b : Nat) : Int)) (a := 0) (b := 23) (by omega) (by omega) (by omega)) yw_X8_in lk_X8_45 rfl dX8_heal_9 rfl (Nat.le_of_ble_eq_true rfl) (by decide) ⟨Nat.le_refl _, Nat.le_refl _⟩ ?_
  refine M_if_ne (pc := 12) C (tgt := 21) (Bi_i32 _) dX8_heal_12 (by decide) (fun _ => ?_) (fun h => absurd hin (by rw [Bi_eq0 h]; decide))
  refine M_aload_n (pc := 21) C dX8_heal_21 rfl (by decide) ?_
  refine A_getR (pc := 22) C fl_X8_7 rfl (a := 84) (j := 85) rfl (tt_84 hT) rfl dX8_heal_22 ?_
  refine M_iconst (pc := 25) C dX8_heal_25 ?_
  refine M_iload_n (pc := 26) C dX8_heal_26 rfl ?_
  refine M_iadd (pc := 27) C dX8_heal_27 ?_
  refine A_iald (pc := 28) C (a := 85) (q := (3 + b)) rfl (tt_85 hT) (by decide) (by omega) (by omega) dX8_heal_28 (fun (r_28 : i32 (R (3 + b))) => ?_)
  refine M.to (pc := 29) (st2 := [vI (R (3 + b))]) ?_ rfl rfl rfl
  refine M_iconst (pc := 29) C dX8_heal_29 ?_
  refine T_icmp_ne (pc := 30) C (by omega) (by omega) dX8_heal_30 dX8_heal_33 dX8_heal_34 dX8_heal_37 ?_
  refine M_istore_n (pc := 38) C dX8_heal_38 (by decide) ?_
  refine M_iconst (pc := 39) C dX8_heal_39 ?_
  refine M_istore_n (pc := 40) C dX8_heal_40 (by decide) ?_
  refine M.to (L2 := [some (vR 84), some (vI ((b : Nat) : Int)), some (vI (Bi (decide (R (3 + b) = 3) && !(orN (fun f => hasIn R f ((b : Nat) : Int)) 0)))), some (vI 0)]) ?_ (by show _ = [some (vR 84), some (vI ((b : Nat) : Int)), some (vI (Bi (decide (R (3 + b) = 3) && true))), some (vI 0)]; rw [Bool.and_true]; rfl) rfl rfl
  refine loop_le (P := fun i => M κ N T 41 [some (vR 84), some (vI ((b : Nat) : Int)), some (vI (Bi (decide (R (3 + b) = 3) && !(orN (fun f => hasIn R f ((b : Nat) : Int)) i)))), some (vI ((i : Nat) : Int))] [] (sa (sa (sa (sa (sa (sa v 86 P) 84 (rs G 13 0)) 94 F) 93 O) 88 A) 85 R) 0 0 (QR κ (some (vI (cntK (rs R (3 + b) 0) 3))) N T (sa (sa (sa (sa (sa (sa v 86 (svP P R s)) 84 (rs (rs G 13 0) 5 ((svN s : Nat) : Int))) 94 F) 93 O) 88 A) 85 (rs R (3 + b) 0)) 0 0)) 10 (fun i hi ih => ?_)
  refine M_iload_n (pc := 41) C dX8_heal_41 rfl ?_
  refine M_bipush (pc := 42) C (by decide) dX8_heal_42 ?_
  refine M_icmp_ge (pc := 44) C (tgt := 72) (by omega) (by omega) dX8_heal_44 (by decide) (fun h_44 => ?_) (fun h_44 => ?_)
  · refine M_iload_n (pc := 72) C dX8_heal_72 rfl ?_
    refine M_if_ne (pc := 73) C (tgt := 82) (Bi_i32 _) dX8_heal_73 (by decide) (fun h_73 => ?_) (fun h_73 => ?_)
    · have b_73 := Bi_ne0 h_73
      refine M_aload_n (pc := 82) C dX8_heal_82 rfl (by decide) ?_
      refine A_cVv (pc := 83) C (a := 84) (c := 8) (c_X8_save hT (v := v) (P := P) (G := rs G 13 0) (F := F) (O := O) (A := A) (R := R) (s := s) (by rw [rs_ne (by decide)]; exact hs) hs6) yw_X8_save lk_X8_87 rfl (congrArg Prod.fst (tt_84 hT)) hc_8 rfl dX8_heal_83 rfl (Nat.le_of_ble_eq_true rfl) (by decide) ⟨Nat.le_refl _, Nat.le_refl _⟩ ?_
      refine M_aload_n (pc := 86) C dX8_heal_86 rfl (by decide) ?_
      refine A_getR (pc := 87) C fl_X8_7 rfl (a := 84) (j := 85) rfl (tt_84 hT) rfl dX8_heal_87 ?_
      refine M_iconst (pc := 90) C dX8_heal_90 ?_
      refine M_iload_n (pc := 91) C dX8_heal_91 rfl ?_
      refine M_iadd (pc := 92) C dX8_heal_92 ?_
      refine M_iconst (pc := 93) C dX8_heal_93 ?_
      refine A_iast (pc := 94) C (a := 85) (q := (3 + b)) rfl (tt_85 hT) (by decide) (by omega) (by omega) (by omega) dX8_heal_94 ?_
      refine M.to (pc := 95) (v2 := sa (sa (sa (sa (sa (sa v 86 (svP P R s)) 84 (rs (rs G 13 0) 5 ((svN s : Nat) : Int))) 94 F) 93 O) 88 A) 85 (rs R (3 + b) 0)) ?_ rfl rfl (by rw [sa_up0])
      refine M_aload_n (pc := 95) C dX8_heal_95 rfl (by decide) ?_
      refine M_iconst (pc := 96) C dX8_heal_96 ?_
      refine A_cV (pc := 97) C (x := vI (cntK (rs R (3 + b) 0) 3)) (a := 84) (c := 8) (c_X8_blocksThat hT (x := 3) (by omega)) yw_X8_blocksThat lk_X8_146 rfl (congrArg Prod.fst (tt_84 hT)) hc_8 rfl dX8_heal_97 rfl (Nat.le_of_ble_eq_true rfl) (by decide) ⟨Nat.le_refl _, Nat.le_refl _⟩ ?_
      exact M_iret (pc := 100) C rfl dX8_heal_100 rfl rfl
    · have b_73 := Bi_eq0 h_73
      exfalso
      have hi10 : i = 10 := by omega
      subst hi10
      exact absurd h3 (by unfold hlB; rw [b_73]; decide)
  · refine M_iload_n (pc := 47) C dX8_heal_47 rfl ?_
    refine M_if_eq (pc := 48) C (tgt := 64) (Bi_i32 _) dX8_heal_48 (by decide) (fun h_48 => ?_) (fun h_48 => ?_)
    · have b_48 := Bi_eq0 h_48
      refine M_iconst (pc := 64) C dX8_heal_64 ?_
      refine M_istore_n (pc := 65) C dX8_heal_65 (by decide) ?_
      refine M_iinc (pc := 66) C dX8_heal_66 rfl (by decide) ?_
      refine M_goto (pc := 69) C (tgt := 41) dX8_heal_69 (by decide) ?_
      exact M.to (ih (by omega)) (by first | (rw [andN_t b_48]; rfl) | (rw [andN_f (n := i + 1) (by omega) b_48]; rfl)) rfl rfl
    · have b_48 := Bi_ne0 h_48
      refine M_aload_n (pc := 51) C dX8_heal_51 rfl (by decide) ?_
      refine M_iload_n (pc := 52) C dX8_heal_52 rfl ?_
      refine M_iload_n (pc := 53) C dX8_heal_53 rfl ?_
      refine A_cV (pc := 54) C (x := vI (Bi (hasIn R i ((b : Nat) : Int)))) (a := 84) (c := 8) (c_X8_hasIn hT hI (f := i) (b := ((b : Nat) : Int)) (by omega) (by omega)) yw_X8_hasIn lk_X8_143 rfl (congrArg Prod.fst (tt_84 hT)) hc_8 rfl dX8_heal_54 rfl (Nat.le_of_ble_eq_true rfl) (by decide) ⟨Nat.le_refl _, Nat.le_refl _⟩ ?_
      refine T_ne (pc := 57) C dX8_heal_57 dX8_heal_60 dX8_heal_61 dX8_heal_64 ?_
      refine M_istore_n (pc := 65) C dX8_heal_65 (by decide) ?_
      refine M_iinc (pc := 66) C dX8_heal_66 rfl (by decide) ?_
      refine M_goto (pc := 69) C (tgt := 41) dX8_heal_69 (by decide) ?_
      exact M.to (ih (by omega)) (by first | (rw [andN_t b_48]; rfl) | (rw [andN_f (n := i + 1) (by omega) b_48]; rfl)) rfl rfl
theorem c_X8_set_b {N : Nat} {T : Ty} {G : Nat → Int} {x : Int} {v : Ct} (hT : TT T) (hx : i32 x) (hb : inB x 0 1 = false) : Runs mX8_set 1 0 0 [vR 84, vI x] N T (sa v 84 G) (some (vI 0)) N T (sa v 84 (rs G 13 1)) := by
  refine Runs.of (by decide) (Nat.le_of_ble_eq_true rfl) fun κ C => ?_
  refine M_aload_n (pc := 0) C dX8_set_0 rfl (by decide) ?_
  refine M_iconst (pc := 1) C dX8_set_1 ?_
  refine A_putI (pc := 2) C fl_X8_41 rfl (by decide) (a := 84) rfl (tt_84 hT) (by omega) dX8_set_2 ?_
  refine M.to (pc := 5) (v2 := sa v 84 (rs G 13 0)) ?_ rfl rfl (by rw [sa_up0])
  refine M_iload_n (pc := 5) C dX8_set_5 rfl ?_
  refine M_iconst (pc := 6) C dX8_set_6 ?_
  refine M_iconst (pc := 7) C dX8_set_7 ?_
  refine A_cS (pc := 8) C (x := vI (Bi (inB x 0 1))) (c_X8_in hT (x := x) (a := 0) (b := 1) (by omega) (by omega) (by omega)) yw_X8_in lk_X8_45 rfl dX8_set_8 rfl (Nat.le_of_ble_eq_true rfl) (by decide) ⟨Nat.le_refl _, Nat.le_refl _⟩ ?_
  refine M_if_ne (pc := 11) C (tgt := 20) (Bi_i32 _) dX8_set_11 (by decide) (fun h => absurd hb (by rw [Bi_ne0 h]; decide)) (fun _ => ?_)
  refine M_aload_n (pc := 14) C dX8_set_14 rfl (by decide) ?_
  refine M_iconst (pc := 15) C dX8_set_15 ?_
  refine A_cV (pc := 16) C (x := vI 0) (a := 84) (c := 8) (c_X8_fails hT (x := 1) (by decide)) yw_X8_fails lk_X8_81 rfl (congrArg Prod.fst (tt_84 hT)) hc_8 rfl dX8_set_16 rfl (Nat.le_of_ble_eq_true rfl) (by decide) ⟨Nat.le_refl _, Nat.le_refl _⟩ ?_
  refine M.to (v2 := sa v 84 (rs (rs G 13 0) 13 1)) ?_ rfl rfl (by rw [sa_up0])
  exact M_iret (pc := 19) C rfl dX8_set_19 rfl (by rw [rs_rs])
theorem c_X8_set {N : Nat} {T : Ty} {P G F O A R : Nat → Int} {s : Nat} {x : Int} {v : Ct} (hT : TT T) (hs : G 5 = (s : Int)) (hs6 : s ≤ 6) (hI : RI R) (hx : 0 ≤ x ∧ x ≤ 1) : Runs mX8_set 1 0 0 [vR 84, vI x] N T (sa (sa (sa (sa (sa (sa v 86 P) 84 G) 94 F) 93 O) 88 A) 85 R) (some (vI (R 2))) N T (sa (sa (sa (sa (sa (sa v 86 (svP P R s)) 84 (rs (rs G 13 0) 5 ((svN s : Nat) : Int))) 94 F) 93 O) 88 A) 85 (rs R 2 x)) := by
  have hin : inB x 0 1 = true := inB_t (by omega) (by omega)
  refine Runs.of (by decide) (Nat.le_of_ble_eq_true rfl) fun κ C => ?_
  refine M_aload_n (pc := 0) C dX8_set_0 rfl (by decide) ?_
  refine M_iconst (pc := 1) C dX8_set_1 ?_
  refine A_putI (pc := 2) C fl_X8_41 rfl (by decide) (a := 84) rfl (tt_84 hT) (by omega) dX8_set_2 ?_
  refine M.to (pc := 5) (v2 := sa (sa (sa (sa (sa (sa v 86 P) 84 (rs G 13 0)) 94 F) 93 O) 88 A) 85 R) ?_ rfl rfl (by rw [sa_up1 (by decide), sa_up1 (by decide), sa_up1 (by decide), sa_up1 (by decide), sa_up0])
  refine M_iload_n (pc := 5) C dX8_set_5 rfl ?_
  refine M_iconst (pc := 6) C dX8_set_6 ?_
  refine M_iconst (pc := 7) C dX8_set_7 ?_
  refine A_cS (pc := 8) C (x := vI (Bi (inB x 0 1))) (c_X8_in hT (x := x) (a := 0) (b := 1) (by omega) (by omega) (by omega)) yw_X8_in lk_X8_45 rfl dX8_set_8 rfl (Nat.le_of_ble_eq_true rfl) (by decide) ⟨Nat.le_refl _, Nat.le_refl _⟩ ?_
  refine M_if_ne (pc := 11) C (tgt := 20) (Bi_i32 _) dX8_set_11 (by decide) (fun _ => ?_) (fun h => absurd hin (by rw [Bi_eq0 h]; decide))
  refine M_aload_n (pc := 20) C dX8_set_20 rfl (by decide) ?_
  refine A_cVv (pc := 21) C (a := 84) (c := 8) (c_X8_save hT (v := v) (P := P) (G := rs G 13 0) (F := F) (O := O) (A := A) (R := R) (s := s) (by rw [rs_ne (by decide)]; exact hs) hs6) yw_X8_save lk_X8_87 rfl (congrArg Prod.fst (tt_84 hT)) hc_8 rfl dX8_set_21 rfl (Nat.le_of_ble_eq_true rfl) (by decide) ⟨Nat.le_refl _, Nat.le_refl _⟩ ?_
  refine M_aload_n (pc := 24) C dX8_set_24 rfl (by decide) ?_
  refine A_getR (pc := 25) C fl_X8_7 rfl (a := 84) (j := 85) rfl (tt_84 hT) rfl dX8_set_25 ?_
  refine M_iconst (pc := 28) C dX8_set_28 ?_
  refine A_iald (pc := 29) C (a := 85) (q := 2) rfl (tt_85 hT) (by decide) rfl (by omega) dX8_set_29 (fun (r_29 : i32 (R 2)) => ?_)
  refine M.to (pc := 30) (st2 := [vI (R 2)]) ?_ rfl rfl rfl
  refine M_istore_n (pc := 30) C dX8_set_30 (by decide) ?_
  refine M_aload_n (pc := 31) C dX8_set_31 rfl (by decide) ?_
  refine A_getR (pc := 32) C fl_X8_7 rfl (a := 84) (j := 85) rfl (tt_84 hT) rfl dX8_set_32 ?_
  refine M_iconst (pc := 35) C dX8_set_35 ?_
  refine M_iload_n (pc := 36) C dX8_set_36 rfl ?_
  refine A_iast (pc := 37) C (a := 85) (q := 2) rfl (tt_85 hT) (by decide) rfl (by omega) (by omega) dX8_set_37 ?_
  refine M.to (pc := 38) (v2 := sa (sa (sa (sa (sa (sa v 86 (svP P R s)) 84 (rs (rs G 13 0) 5 ((svN s : Nat) : Int))) 94 F) 93 O) 88 A) 85 (rs R 2 x)) ?_ rfl rfl (by rw [sa_up0])
  refine M_iload_n (pc := 38) C dX8_set_38 rfl ?_
  exact M_iret (pc := 39) C rfl dX8_set_39 rfl rfl
theorem c_X8_pack {N : Nat} {T : Ty} {P G F O A R : Nat → Int} {s : Nat} {v : Ct} (hT : TT T) (hs : G 5 = (s : Int)) (hs6 : s ≤ 6) (hI : RI R) : RunsP mX8_pack 6 0 0 [vR 84] N T (sa (sa (sa (sa (sa (sa v 86 P) 84 G) 94 F) 93 O) 88 A) 85 R) N T (fun r1 v1 => ∃ F2, r1 = some (vI (pkV R)) ∧ v1 = sa (sa (sa (sa (sa (sa v 86 (svP P R s)) 84 (rs (rs G 13 0) 5 ((svN s : Nat) : Int))) 94 F2) 93 (wrO O (srL R 150))) 88 (cpA A R 0 0 207)) 85 (pkRR R)) := by
  refine RunsP.of (by decide) (Nat.le_of_ble_eq_true rfl) fun κ C => ?_
  refine M_aload_n (pc := 0) C dX8_pack_0 rfl (by decide) ?_
  refine M_iconst (pc := 1) C dX8_pack_1 ?_
  refine A_putI (pc := 2) C fl_X8_41 rfl (by decide) (a := 84) rfl (tt_84 hT) (by omega) dX8_pack_2 ?_
  refine M.to (pc := 5) (v2 := sa (sa (sa (sa (sa (sa v 86 P) 84 (rs G 13 0)) 94 F) 93 O) 88 A) 85 R) ?_ rfl rfl (by rw [sa_up1 (by decide), sa_up1 (by decide), sa_up1 (by decide), sa_up1 (by decide), sa_up0])
  refine M_aload_n (pc := 5) C dX8_pack_5 rfl (by decide) ?_
  refine A_cVv (pc := 6) C (a := 84) (c := 8) (c_X8_save hT (v := v) (P := P) (G := rs G 13 0) (F := F) (O := O) (A := A) (R := R) (s := s) (by rw [rs_ne (by decide)]; exact hs) hs6) yw_X8_save lk_X8_87 rfl (congrArg Prod.fst (tt_84 hT)) hc_8 rfl dX8_pack_6 rfl (Nat.le_of_ble_eq_true rfl) (by decide) ⟨Nat.le_refl _, Nat.le_refl _⟩ ?_
  refine M_aload_n (pc := 9) C dX8_pack_9 rfl (by decide) ?_
  refine A_pV (pc := 10) C (a := 84) (c := 8) (c_X8_packs hT (v := sa (sa v 86 (svP P R s)) 84 (rs (rs G 13 0) 5 ((svN s : Nat) : Int))) (F := F) (O := O) (A := A) (R := R) hI) yw_X8_packs lk_X8_161 rfl (congrArg Prod.fst (tt_84 hT)) hc_8 rfl dX8_pack_10 rfl (Nat.le_of_ble_eq_true rfl) (by decide) ⟨Nat.le_refl _, Nat.le_refl _⟩ (fun r_10 v_10 p_10 => ?_)
  obtain ⟨F_10, rfl, rfl⟩ := p_10
  refine M.to (pc := 13) (st2 := [vI (pkV R)]) (v2 := sa (sa (sa (sa (sa (sa v 86 (svP P R s)) 84 (rs (rs G 13 0) 5 ((svN s : Nat) : Int))) 94 F_10) 93 (wrO O (srL R 150))) 88 (cpA A R 0 0 207)) 85 (pkRR R)) ?_ rfl rfl rfl
  exact M_iretP (pc := 13) C rfl dX8_pack_13 ⟨F_10, rfl, rfl⟩
theorem c_X8_undo_b {N : Nat} {T : Ty} {G : Nat → Int}  {v : Ct} (hT : TT T) (h0 : G 5 = 0) : Runs mX8_undo 1 0 0 [vR 84] N T (sa v 84 G) (some (vI 0)) N T (sa v 84 (rs G 13 1)) := by
  refine Runs.of (by decide) (Nat.le_of_ble_eq_true rfl) fun κ C => ?_
  refine M_aload_n (pc := 0) C dX8_undo_0 rfl (by decide) ?_
  refine M_iconst (pc := 1) C dX8_undo_1 ?_
  refine A_putI (pc := 2) C fl_X8_41 rfl (by decide) (a := 84) rfl (tt_84 hT) (by omega) dX8_undo_2 ?_
  refine M.to (pc := 5) (v2 := sa v 84 (rs G 13 0)) ?_ rfl rfl (by rw [sa_up0])
  refine M_aload_n (pc := 5) C dX8_undo_5 rfl (by decide) ?_
  refine A_getI (pc := 6) C fl_X8_78 rfl (a := 84) rfl (tt_84 hT) dX8_undo_6 (fun (r_6 : i32 ((rs G 13 0) 5)) => ?_)
  refine M.to (pc := 9) (st2 := [vI ((rs G 13 0) 5)]) ?_ rfl rfl rfl
  have e5 : (rs G 13 0) 5 = G 5 := rs_ne (by decide) _
  refine M_if_ne (pc := 9) C (tgt := 18) (by omega) dX8_undo_9 (by decide) (fun h_9 => ?_) (fun h_9 => ?_)
  · exfalso
    omega
  · refine M_aload_n (pc := 12) C dX8_undo_12 rfl (by decide) ?_
    refine M_iconst (pc := 13) C dX8_undo_13 ?_
    refine A_cV (pc := 14) C (x := vI 0) (a := 84) (c := 8) (c_X8_fails hT (x := 1) (by decide)) yw_X8_fails lk_X8_81 rfl (congrArg Prod.fst (tt_84 hT)) hc_8 rfl dX8_undo_14 rfl (Nat.le_of_ble_eq_true rfl) (by decide) ⟨Nat.le_refl _, Nat.le_refl _⟩ ?_
    refine M.to (v2 := sa v 84 (rs (rs G 13 0) 13 1)) ?_ rfl rfl (by rw [sa_up0])
    exact M_iret (pc := 17) C rfl dX8_undo_17 rfl (by rw [rs_rs])
theorem c_X8_undo {N : Nat} {T : Ty} {P G F O A R : Nat → Int} {s : Nat} {v : Ct} (hT : TT T) (hs : G 5 = ((s + 1 : Nat) : Int)) (hs6 : s < 6) : Runs mX8_undo 0 0 0 [vR 84] N T (sa (sa (sa (sa (sa (sa v 86 P) 84 G) 94 F) 93 O) 88 A) 85 R) (some (vI ((s : Nat) : Int))) N T (sa (sa (sa (sa (sa (sa v 86 P) 84 (rs (rs G 13 0) 5 ((s : Nat) : Int))) 94 F) 93 O) 88 A) 85 (cpA R P 0 (207 * s) 207)) := by
  refine Runs.of (by decide) (Nat.le_of_ble_eq_true rfl) fun κ C => ?_
  refine M_aload_n (pc := 0) C dX8_undo_0 rfl (by decide) ?_
  refine M_iconst (pc := 1) C dX8_undo_1 ?_
  refine A_putI (pc := 2) C fl_X8_41 rfl (by decide) (a := 84) rfl (tt_84 hT) (by omega) dX8_undo_2 ?_
  refine M.to (pc := 5) (v2 := sa (sa (sa (sa (sa (sa v 86 P) 84 (rs G 13 0)) 94 F) 93 O) 88 A) 85 R) ?_ rfl rfl (by rw [sa_up1 (by decide), sa_up1 (by decide), sa_up1 (by decide), sa_up1 (by decide), sa_up0])
  refine M_aload_n (pc := 5) C dX8_undo_5 rfl (by decide) ?_
  refine A_getI (pc := 6) C fl_X8_78 rfl (a := 84) rfl (tt_84 hT) dX8_undo_6 (fun (r_6 : i32 ((rs G 13 0) 5)) => ?_)
  refine M.to (pc := 9) (st2 := [vI ((rs G 13 0) 5)]) ?_ rfl rfl rfl
  have e5 : (rs G 13 0) 5 = G 5 := rs_ne (by decide) _
  refine M_if_ne (pc := 9) C (tgt := 18) (by omega) dX8_undo_9 (by decide) (fun h_9 => ?_) (fun h_9 => ?_)
  · refine M_aload_n (pc := 18) C dX8_undo_18 rfl (by decide) ?_
    refine M_dup (pc := 19) C rfl dX8_undo_19 ?_
    refine A_getI (pc := 20) C fl_X8_78 rfl (a := 84) rfl (tt_84 hT) dX8_undo_20 (fun (r_20 : i32 ((rs G 13 0) 5)) => ?_)
    refine M.to (pc := 23) (st2 := [vI ((rs G 13 0) 5), vR 84]) ?_ rfl rfl rfl
    refine M_iconst (pc := 23) C dX8_undo_23 ?_
    refine M_isub (pc := 24) C dX8_undo_24 ?_
    refine M.to (st2 := [vI ((s : Nat) : Int), vR 84]) ?_ rfl (by rw [show (rs G 13 0) 5 - 1 = ((s : Nat) : Int) by omega]) rfl
    refine A_putI (pc := 25) C fl_X8_78 rfl (by decide) (a := 84) rfl (tt_84 hT) (by omega) dX8_undo_25 ?_
    refine M.to (pc := 28) (v2 := sa (sa (sa (sa (sa (sa v 86 P) 84 (rs (rs G 13 0) 5 ((s : Nat) : Int))) 94 F) 93 O) 88 A) 85 R) ?_ rfl rfl (by rw [sa_up1 (by decide), sa_up1 (by decide), sa_up1 (by decide), sa_up1 (by decide), sa_up0])
    refine M_iconst (pc := 28) C dX8_undo_28 ?_
    refine M_istore_n (pc := 29) C dX8_undo_29 (by decide) ?_
    refine M.to (v2 := sa (sa (sa (sa (sa (sa v 86 P) 84 (rs (rs G 13 0) 5 ((s : Nat) : Int))) 94 F) 93 O) 88 A) 85 (cpA R P 0 (207 * s) 0)) ?_ rfl rfl (by rw [cpA_0])
    refine loop_le (P := fun i => M κ N T 30 [some (vR 84), some (vI ((i : Nat) : Int))] [] (sa (sa (sa (sa (sa (sa v 86 P) 84 (rs (rs G 13 0) 5 ((s : Nat) : Int))) 94 F) 93 O) 88 A) 85 (cpA R P 0 (207 * s) i)) 0 0 (QR κ (some (vI ((s : Nat) : Int))) N T (sa (sa (sa (sa (sa (sa v 86 P) 84 (rs (rs G 13 0) 5 ((s : Nat) : Int))) 94 F) 93 O) 88 A) 85 (cpA R P 0 (207 * s) 207)) 0 0)) 207 (fun i hi ih => ?_)
    refine M_iload_n (pc := 30) C dX8_undo_30 rfl ?_
    refine M_sipush (pc := 31) C (by decide) dX8_undo_31 ?_
    refine M_icmp_ge (pc := 34) C (tgt := 64) (by omega) (by omega) dX8_undo_34 (by decide) (fun h_34 => ?_) (fun h_34 => ?_)
    · have hi207 : i = 207 := by omega
      subst hi207
      refine M_aload_n (pc := 64) C dX8_undo_64 rfl (by decide) ?_
      refine A_getI (pc := 65) C fl_X8_78 rfl (a := 84) rfl (tt_84 hT) dX8_undo_65 (fun (r_65 : i32 ((rs (rs G 13 0) 5 ((s : Nat) : Int)) 5)) => ?_)
      refine M.to (pc := 68) (st2 := [vI ((rs (rs G 13 0) 5 ((s : Nat) : Int)) 5)]) ?_ rfl rfl rfl
      exact M_iret (pc := 68) C rfl dX8_undo_68 (by rw [rs_eq]) rfl
    · refine M_aload_n (pc := 37) C dX8_undo_37 rfl (by decide) ?_
      refine A_getR (pc := 38) C fl_X8_7 rfl (a := 84) (j := 85) rfl (tt_84 hT) rfl dX8_undo_38 ?_
      refine M_iload_n (pc := 41) C dX8_undo_41 rfl ?_
      refine M_aload_n (pc := 42) C dX8_undo_42 rfl (by decide) ?_
      refine A_getR (pc := 43) C fl_X8_13 rfl (a := 84) (j := 86) rfl (tt_84 hT) rfl dX8_undo_43 ?_
      refine M_sipush (pc := 46) C (by decide) dX8_undo_46 ?_
      refine M_aload_n (pc := 49) C dX8_undo_49 rfl (by decide) ?_
      refine A_getI (pc := 50) C fl_X8_78 rfl (a := 84) rfl (tt_84 hT) dX8_undo_50 (fun (r_50 : i32 ((rs (rs G 13 0) 5 ((s : Nat) : Int)) 5)) => ?_)
      refine M.to (pc := 53) (st2 := [vI ((rs (rs G 13 0) 5 ((s : Nat) : Int)) 5), vI 207, vR 86, vI ((i : Nat) : Int), vR 85]) ?_ rfl rfl rfl
      refine M.to (st2 := [vI ((s : Nat) : Int), vI 207, vR 86, vI ((i : Nat) : Int), vR 85]) ?_ rfl (by rw [rs_eq]) rfl
      refine M_imul (pc := 53) C dX8_undo_53 ?_
      refine M_iload_n (pc := 54) C dX8_undo_54 rfl ?_
      refine M_iadd (pc := 55) C dX8_undo_55 ?_
      refine A_iald (pc := 56) C (a := 86) (q := (207 * s + i)) rfl (tt_86 hT) (by decide) (by omega) (by omega) dX8_undo_56 (fun (r_56 : i32 (P (207 * s + i))) => ?_)
      refine M.to (pc := 57) (st2 := [vI (P (207 * s + i)), vI ((i : Nat) : Int), vR 85]) ?_ rfl rfl rfl
      refine A_iast (pc := 57) C (a := 85) (q := i) rfl (tt_85 hT) (by decide) rfl (by omega) (by omega) dX8_undo_57 ?_
      refine M.to (pc := 58) (v2 := sa (sa (sa (sa (sa (sa v 86 P) 84 (rs (rs G 13 0) 5 ((s : Nat) : Int))) 94 F) 93 O) 88 A) 85 (rs (cpA R P 0 (207 * s) i) i (P (207 * s + i)))) ?_ rfl rfl (by rw [sa_up0])
      refine M_iinc (pc := 58) C dX8_undo_58 rfl (by decide) ?_
      refine M_goto (pc := 61) C (tgt := 30) dX8_undo_61 (by decide) ?_
      exact M.to (ih (by omega)) rfl rfl (by rw [show rs (cpA R P 0 (207 * s) i) i (P (207 * s + i)) = cpA R P 0 (207 * s) (i + 1) from by have h := cpA_s R P 0 (207 * s) i; rw [Nat.zero_add] at h; exact h])
  · exfalso
    omega
theorem c_X8_keep_b {N : Nat} {T : Ty} {G : Nat → Int} {x : Int} {v : Ct} (hT : TT T) (hx : i32 x) (hb : inB x 0 1 = false) : Runs mX8_keep 1 0 0 [vR 84, vI x] N T (sa v 84 G) (some (vI 0)) N T (sa v 84 (rs G 13 1)) := by
  refine Runs.of (by decide) (Nat.le_of_ble_eq_true rfl) fun κ C => ?_
  refine M_aload_n (pc := 0) C dX8_keep_0 rfl (by decide) ?_
  refine M_iconst (pc := 1) C dX8_keep_1 ?_
  refine A_putI (pc := 2) C fl_X8_41 rfl (by decide) (a := 84) rfl (tt_84 hT) (by omega) dX8_keep_2 ?_
  refine M.to (pc := 5) (v2 := sa v 84 (rs G 13 0)) ?_ rfl rfl (by rw [sa_up0])
  refine M_iload_n (pc := 5) C dX8_keep_5 rfl ?_
  refine M_iconst (pc := 6) C dX8_keep_6 ?_
  refine M_iconst (pc := 7) C dX8_keep_7 ?_
  refine A_cS (pc := 8) C (x := vI (Bi (inB x 0 1))) (c_X8_in hT (x := x) (a := 0) (b := 1) (by omega) (by omega) (by omega)) yw_X8_in lk_X8_45 rfl dX8_keep_8 rfl (Nat.le_of_ble_eq_true rfl) (by decide) ⟨Nat.le_refl _, Nat.le_refl _⟩ ?_
  refine M_if_ne (pc := 11) C (tgt := 20) (Bi_i32 _) dX8_keep_11 (by decide) (fun h => absurd hb (by rw [Bi_ne0 h]; decide)) (fun _ => ?_)
  refine M_aload_n (pc := 14) C dX8_keep_14 rfl (by decide) ?_
  refine M_iconst (pc := 15) C dX8_keep_15 ?_
  refine A_cV (pc := 16) C (x := vI 0) (a := 84) (c := 8) (c_X8_fails hT (x := 1) (by decide)) yw_X8_fails lk_X8_81 rfl (congrArg Prod.fst (tt_84 hT)) hc_8 rfl dX8_keep_16 rfl (Nat.le_of_ble_eq_true rfl) (by decide) ⟨Nat.le_refl _, Nat.le_refl _⟩ ?_
  refine M.to (v2 := sa v 84 (rs (rs G 13 0) 13 1)) ?_ rfl rfl (by rw [sa_up0])
  exact M_iret (pc := 19) C rfl dX8_keep_19 rfl (by rw [rs_rs])
theorem c_X8_keep {N : Nat} {T : Ty} {Z S G R : Nat → Int} {x : Nat} {v : Ct} (hT : TT T) (hI : RI R) (hx : x < 2) : Runs mX8_keep 2 0 0 [vR 84, vI ((x : Nat) : Int)] N T (sa (sa (sa (sa v 89 Z) 87 S) 84 G) 85 R) (some (vI (filF R))) N T (sa (sa (sa (sa v 89 (rs Z x 1)) 87 (cpA S R (207 * x) 0 207)) 84 (rs G 13 0)) 85 R) := by
  have hin : inB ((x : Nat) : Int) 0 1 = true := inB_t (by omega) (by omega)
  refine Runs.of (by decide) (Nat.le_of_ble_eq_true rfl) fun κ C => ?_
  refine M_aload_n (pc := 0) C dX8_keep_0 rfl (by decide) ?_
  refine M_iconst (pc := 1) C dX8_keep_1 ?_
  refine A_putI (pc := 2) C fl_X8_41 rfl (by decide) (a := 84) rfl (tt_84 hT) (by omega) dX8_keep_2 ?_
  refine M.to (pc := 5) (v2 := sa (sa (sa (sa v 89 Z) 87 S) 84 (rs G 13 0)) 85 R) ?_ rfl rfl (by rw [sa_up1 (by decide), sa_up0])
  refine M_iload_n (pc := 5) C dX8_keep_5 rfl ?_
  refine M_iconst (pc := 6) C dX8_keep_6 ?_
  refine M_iconst (pc := 7) C dX8_keep_7 ?_
  refine A_cS (pc := 8) C (x := vI (Bi (inB ((x : Nat) : Int) 0 1))) (c_X8_in hT (x := ((x : Nat) : Int)) (a := 0) (b := 1) (by omega) (by omega) (by omega)) yw_X8_in lk_X8_45 rfl dX8_keep_8 rfl (Nat.le_of_ble_eq_true rfl) (by decide) ⟨Nat.le_refl _, Nat.le_refl _⟩ ?_
  refine M_if_ne (pc := 11) C (tgt := 20) (Bi_i32 _) dX8_keep_11 (by decide) (fun _ => ?_) (fun h => absurd hin (by rw [Bi_eq0 h]; decide))
  refine M_iconst (pc := 20) C dX8_keep_20 ?_
  refine M_istore_n (pc := 21) C dX8_keep_21 (by decide) ?_
  refine M.to (v2 := sa (sa (sa (sa v 89 Z) 87 (cpA S R (207 * x) 0 0)) 84 (rs G 13 0)) 85 R) ?_ rfl rfl (by rw [cpA_0])
  refine loop_le (P := fun i => M κ N T 22 [some (vR 84), some (vI ((x : Nat) : Int)), some (vI ((i : Nat) : Int))] [] (sa (sa (sa (sa v 89 Z) 87 (cpA S R (207 * x) 0 i)) 84 (rs G 13 0)) 85 R) 0 0 (QR κ (some (vI (filF R))) N T (sa (sa (sa (sa v 89 (rs Z x 1)) 87 (cpA S R (207 * x) 0 207)) 84 (rs G 13 0)) 85 R) 0 0)) 207 (fun i hi ih => ?_)
  refine M_iload_n (pc := 22) C dX8_keep_22 rfl ?_
  refine M_sipush (pc := 23) C (by decide) dX8_keep_23 ?_
  refine M_icmp_ge (pc := 26) C (tgt := 53) (by omega) (by omega) dX8_keep_26 (by decide) (fun h_26 => ?_) (fun h_26 => ?_)
  · have hi207 : i = 207 := by omega
    subst hi207
    refine M_aload_n (pc := 53) C dX8_keep_53 rfl (by decide) ?_
    refine A_getR (pc := 54) C fl_X8_22 rfl (a := 84) (j := 89) rfl (tt_84 hT) rfl dX8_keep_54 ?_
    refine M_iload_n (pc := 57) C dX8_keep_57 rfl ?_
    refine M_iconst (pc := 58) C dX8_keep_58 ?_
    refine A_zast (pc := 59) C (a := 89) (q := x) rfl (tt_89 hT) (by decide) rfl (by omega) (Or.inr rfl) dX8_keep_59 ?_
    refine M.to (pc := 60) (v2 := sa (sa (sa (sa v 89 (rs Z x 1)) 87 (cpA S R (207 * x) 0 207)) 84 (rs G 13 0)) 85 R) ?_ rfl rfl (by rw [sa_up1 (by decide), sa_up1 (by decide), sa_up1 (by decide), sa_up0])
    refine M_aload_n (pc := 60) C dX8_keep_60 rfl (by decide) ?_
    refine A_cV (pc := 61) C (x := vI (filF R)) (a := 84) (c := 8) (c_X8_files hT hI) yw_X8_files lk_X8_84 rfl (congrArg Prod.fst (tt_84 hT)) hc_8 rfl dX8_keep_61 rfl (Nat.le_of_ble_eq_true rfl) (by decide) ⟨Nat.le_refl _, Nat.le_refl _⟩ ?_
    exact M_iret (pc := 64) C rfl dX8_keep_64 rfl rfl
  · refine M_aload_n (pc := 29) C dX8_keep_29 rfl (by decide) ?_
    refine A_getR (pc := 30) C fl_X8_16 rfl (a := 84) (j := 87) rfl (tt_84 hT) rfl dX8_keep_30 ?_
    refine M_sipush (pc := 33) C (by decide) dX8_keep_33 ?_
    refine M_iload_n (pc := 36) C dX8_keep_36 rfl ?_
    refine M_imul (pc := 37) C dX8_keep_37 ?_
    refine M_iload_n (pc := 38) C dX8_keep_38 rfl ?_
    refine M_iadd (pc := 39) C dX8_keep_39 ?_
    refine M_aload_n (pc := 40) C dX8_keep_40 rfl (by decide) ?_
    refine A_getR (pc := 41) C fl_X8_7 rfl (a := 84) (j := 85) rfl (tt_84 hT) rfl dX8_keep_41 ?_
    refine M_iload_n (pc := 44) C dX8_keep_44 rfl ?_
    refine A_iald (pc := 45) C (a := 85) (q := i) rfl (tt_85 hT) (by decide) rfl (by omega) dX8_keep_45 (fun (r_45 : i32 (R i)) => ?_)
    refine M.to (pc := 46) (st2 := [vI (R i), vI ((207 * ((x : Nat) : Int)) + ((i : Nat) : Int)), vR 87]) ?_ rfl rfl rfl
    refine A_iast (pc := 46) C (a := 87) (q := (207 * x + i)) rfl (tt_87 hT) (by decide) (by omega) (by omega) (by omega) dX8_keep_46 ?_
    refine M.to (pc := 47) (v2 := sa (sa (sa (sa v 89 Z) 87 (rs (cpA S R (207 * x) 0 i) (207 * x + i) (R i))) 84 (rs G 13 0)) 85 R) ?_ rfl rfl (by rw [sa_up1 (by decide), sa_up1 (by decide), sa_up0])
    refine M_iinc (pc := 47) C dX8_keep_47 rfl (by decide) ?_
    refine M_goto (pc := 50) C (tgt := 22) dX8_keep_50 (by decide) ?_
    exact M.to (ih (by omega)) rfl rfl (by rw [show rs (cpA S R (207 * x) 0 i) (207 * x + i) (R i) = cpA S R (207 * x) 0 (i + 1) from by have h := cpA_s S R (207 * x) 0 i; rw [Nat.zero_add] at h; exact h])
theorem c_X8_goBack_b1 {N : Nat} {T : Ty} {G : Nat → Int} {x : Int} {v : Ct} (hT : TT T) (hx : i32 x) (hb : inB x 0 1 = false) : Runs mX8_goBack 1 0 0 [vR 84, vI x] N T (sa v 84 G) (some (vI 0)) N T (sa v 84 (rs G 13 1)) := by
  refine Runs.of (by decide) (Nat.le_of_ble_eq_true rfl) fun κ C => ?_
  refine M_aload_n (pc := 0) C dX8_goBack_0 rfl (by decide) ?_
  refine M_iconst (pc := 1) C dX8_goBack_1 ?_
  refine A_putI (pc := 2) C fl_X8_41 rfl (by decide) (a := 84) rfl (tt_84 hT) (by omega) dX8_goBack_2 ?_
  refine M.to (pc := 5) (v2 := sa v 84 (rs G 13 0)) ?_ rfl rfl (by rw [sa_up0])
  refine M_iload_n (pc := 5) C dX8_goBack_5 rfl ?_
  refine M_iconst (pc := 6) C dX8_goBack_6 ?_
  refine M_iconst (pc := 7) C dX8_goBack_7 ?_
  refine A_cS (pc := 8) C (x := vI (Bi (inB x 0 1))) (c_X8_in hT (x := x) (a := 0) (b := 1) (by omega) (by omega) (by omega)) yw_X8_in lk_X8_45 rfl dX8_goBack_8 rfl (Nat.le_of_ble_eq_true rfl) (by decide) ⟨Nat.le_refl _, Nat.le_refl _⟩ ?_
  refine M_if_ne (pc := 11) C (tgt := 20) (Bi_i32 _) dX8_goBack_11 (by decide) (fun h => absurd hb (by rw [Bi_ne0 h]; decide)) (fun _ => ?_)
  refine M_aload_n (pc := 14) C dX8_goBack_14 rfl (by decide) ?_
  refine M_iconst (pc := 15) C dX8_goBack_15 ?_
  refine A_cV (pc := 16) C (x := vI 0) (a := 84) (c := 8) (c_X8_fails hT (x := 1) (by decide)) yw_X8_fails lk_X8_81 rfl (congrArg Prod.fst (tt_84 hT)) hc_8 rfl dX8_goBack_16 rfl (Nat.le_of_ble_eq_true rfl) (by decide) ⟨Nat.le_refl _, Nat.le_refl _⟩ ?_
  refine M.to (v2 := sa v 84 (rs (rs G 13 0) 13 1)) ?_ rfl rfl (by rw [sa_up0])
  exact M_iret (pc := 19) C rfl dX8_goBack_19 rfl (by rw [rs_rs])
theorem c_X8_goBack_b2 {N : Nat} {T : Ty} {G : Nat → Int} {x : Nat} {v : Ct} (hT : TT T) (hx : x < 2) (hz : v 89 x = 0) : Runs mX8_goBack 1 0 0 [vR 84, vI ((x : Nat) : Int)] N T (sa v 84 G) (some (vI 0)) N T (sa v 84 (rs G 13 2)) := by
  have hin : inB ((x : Nat) : Int) 0 1 = true := inB_t (by omega) (by omega)
  refine Runs.of (by decide) (Nat.le_of_ble_eq_true rfl) fun κ C => ?_
  refine M_aload_n (pc := 0) C dX8_goBack_0 rfl (by decide) ?_
  refine M_iconst (pc := 1) C dX8_goBack_1 ?_
  refine A_putI (pc := 2) C fl_X8_41 rfl (by decide) (a := 84) rfl (tt_84 hT) (by omega) dX8_goBack_2 ?_
  refine M.to (pc := 5) (v2 := sa v 84 (rs G 13 0)) ?_ rfl rfl (by rw [sa_up0])
  refine M_iload_n (pc := 5) C dX8_goBack_5 rfl ?_
  refine M_iconst (pc := 6) C dX8_goBack_6 ?_
  refine M_iconst (pc := 7) C dX8_goBack_7 ?_
  refine A_cS (pc := 8) C (x := vI (Bi (inB ((x : Nat) : Int) 0 1))) (c_X8_in hT (x := ((x : Nat) : Int)) (a := 0) (b := 1) (by omega) (by omega) (by omega)) yw_X8_in lk_X8_45 rfl dX8_goBack_8 rfl (Nat.le_of_ble_eq_true rfl) (by decide) ⟨Nat.le_refl _, Nat.le_refl _⟩ ?_
  refine M_if_ne (pc := 11) C (tgt := 20) (Bi_i32 _) dX8_goBack_11 (by decide) (fun _ => ?_) (fun h => absurd hin (by rw [Bi_eq0 h]; decide))
  refine M_aload_n (pc := 20) C dX8_goBack_20 rfl (by decide) ?_
  refine A_getR (pc := 21) C fl_X8_22 rfl (a := 84) (j := 89) rfl (tt_84 hT) rfl dX8_goBack_21 ?_
  refine M_iload_n (pc := 24) C dX8_goBack_24 rfl ?_
  refine A_zald (pc := 25) C (a := 89) (q := x) rfl (tt_89 hT) (by decide) rfl (by omega) dX8_goBack_25 (fun (r_25 : i32 (v 89 x)) => ?_)
  refine M.to (pc := 26) (st2 := [vI (v 89 x)]) ?_ rfl rfl rfl
  refine M_if_ne (pc := 26) C (tgt := 35) (by omega) dX8_goBack_26 (by decide) (fun h_26 => ?_) (fun h_26 => ?_)
  · exfalso
    omega
  · refine M_aload_n (pc := 29) C dX8_goBack_29 rfl (by decide) ?_
    refine M_iconst (pc := 30) C dX8_goBack_30 ?_
    refine A_cV (pc := 31) C (x := vI 0) (a := 84) (c := 8) (c_X8_fails hT (x := 2) (by decide)) yw_X8_fails lk_X8_81 rfl (congrArg Prod.fst (tt_84 hT)) hc_8 rfl dX8_goBack_31 rfl (Nat.le_of_ble_eq_true rfl) (by decide) ⟨Nat.le_refl _, Nat.le_refl _⟩ ?_
    refine M.to (v2 := sa v 84 (rs (rs G 13 0) 13 2)) ?_ rfl rfl (by rw [sa_up0])
    exact M_iret (pc := 34) C rfl dX8_goBack_34 rfl (by rw [rs_rs])
theorem c_X8_goBack {N : Nat} {T : Ty} {P G F O A R : Nat → Int} {s x : Nat} {v : Ct} (hT : TT T) (hs : G 5 = (s : Int)) (hs6 : s ≤ 6) (hI : RI R) (hx : x < 2) (hz : v 89 x ≠ 0) (hI2 : RI (cpA R (v 87) 0 (207 * x) 207)) : Runs mX8_goBack 2 0 0 [vR 84, vI ((x : Nat) : Int)] N T (sa (sa (sa (sa (sa (sa v 86 P) 84 G) 94 F) 93 O) 88 A) 85 R) (some (vI (filF (cpA R (v 87) 0 (207 * x) 207)))) N T (sa (sa (sa (sa (sa (sa v 86 (svP P R s)) 84 (rs (rs G 13 0) 5 ((svN s : Nat) : Int))) 94 F) 93 O) 88 A) 85 (cpA R (v 87) 0 (207 * x) 207)) := by
  have hin : inB ((x : Nat) : Int) 0 1 = true := inB_t (by omega) (by omega)
  refine Runs.of (by decide) (Nat.le_of_ble_eq_true rfl) fun κ C => ?_
  refine M_aload_n (pc := 0) C dX8_goBack_0 rfl (by decide) ?_
  refine M_iconst (pc := 1) C dX8_goBack_1 ?_
  refine A_putI (pc := 2) C fl_X8_41 rfl (by decide) (a := 84) rfl (tt_84 hT) (by omega) dX8_goBack_2 ?_
  refine M.to (pc := 5) (v2 := sa (sa (sa (sa (sa (sa v 86 P) 84 (rs G 13 0)) 94 F) 93 O) 88 A) 85 R) ?_ rfl rfl (by rw [sa_up1 (by decide), sa_up1 (by decide), sa_up1 (by decide), sa_up1 (by decide), sa_up0])
  refine M_iload_n (pc := 5) C dX8_goBack_5 rfl ?_
  refine M_iconst (pc := 6) C dX8_goBack_6 ?_
  refine M_iconst (pc := 7) C dX8_goBack_7 ?_
  refine A_cS (pc := 8) C (x := vI (Bi (inB ((x : Nat) : Int) 0 1))) (c_X8_in hT (x := ((x : Nat) : Int)) (a := 0) (b := 1) (by omega) (by omega) (by omega)) yw_X8_in lk_X8_45 rfl dX8_goBack_8 rfl (Nat.le_of_ble_eq_true rfl) (by decide) ⟨Nat.le_refl _, Nat.le_refl _⟩ ?_
  refine M_if_ne (pc := 11) C (tgt := 20) (Bi_i32 _) dX8_goBack_11 (by decide) (fun _ => ?_) (fun h => absurd hin (by rw [Bi_eq0 h]; decide))
  refine M_aload_n (pc := 20) C dX8_goBack_20 rfl (by decide) ?_
  refine A_getR (pc := 21) C fl_X8_22 rfl (a := 84) (j := 89) rfl (tt_84 hT) rfl dX8_goBack_21 ?_
  refine M_iload_n (pc := 24) C dX8_goBack_24 rfl ?_
  refine A_zald (pc := 25) C (a := 89) (q := x) rfl (tt_89 hT) (by decide) rfl (by omega) dX8_goBack_25 (fun (r_25 : i32 (v 89 x)) => ?_)
  refine M.to (pc := 26) (st2 := [vI (v 89 x)]) ?_ rfl rfl rfl
  refine M_if_ne (pc := 26) C (tgt := 35) (by omega) dX8_goBack_26 (by decide) (fun h_26 => ?_) (fun h_26 => ?_)
  · refine M_aload_n (pc := 35) C dX8_goBack_35 rfl (by decide) ?_
    refine A_cVv (pc := 36) C (a := 84) (c := 8) (c_X8_save hT (v := v) (P := P) (G := rs G 13 0) (F := F) (O := O) (A := A) (R := R) (s := s) (by rw [rs_ne (by decide)]; exact hs) hs6) yw_X8_save lk_X8_87 rfl (congrArg Prod.fst (tt_84 hT)) hc_8 rfl dX8_goBack_36 rfl (Nat.le_of_ble_eq_true rfl) (by decide) ⟨Nat.le_refl _, Nat.le_refl _⟩ ?_
    refine M_iconst (pc := 39) C dX8_goBack_39 ?_
    refine M_istore_n (pc := 40) C dX8_goBack_40 (by decide) ?_
    refine M.to (v2 := sa (sa (sa (sa (sa (sa v 86 (svP P R s)) 84 (rs (rs G 13 0) 5 ((svN s : Nat) : Int))) 94 F) 93 O) 88 A) 85 (cpA R (v 87) 0 (207 * x) 0)) ?_ rfl rfl (by rw [cpA_0])
    refine loop_le (P := fun i => M κ N T 41 [some (vR 84), some (vI ((x : Nat) : Int)), some (vI ((i : Nat) : Int))] [] (sa (sa (sa (sa (sa (sa v 86 (svP P R s)) 84 (rs (rs G 13 0) 5 ((svN s : Nat) : Int))) 94 F) 93 O) 88 A) 85 (cpA R (v 87) 0 (207 * x) i)) 0 0 (QR κ (some (vI (filF (cpA R (v 87) 0 (207 * x) 207)))) N T (sa (sa (sa (sa (sa (sa v 86 (svP P R s)) 84 (rs (rs G 13 0) 5 ((svN s : Nat) : Int))) 94 F) 93 O) 88 A) 85 (cpA R (v 87) 0 (207 * x) 207)) 0 0)) 207 (fun i hi ih => ?_)
    refine M_iload_n (pc := 41) C dX8_goBack_41 rfl ?_
    refine M_sipush (pc := 42) C (by decide) dX8_goBack_42 ?_
    refine M_icmp_ge (pc := 45) C (tgt := 72) (by omega) (by omega) dX8_goBack_45 (by decide) (fun h_45 => ?_) (fun h_45 => ?_)
    · have hi207 : i = 207 := by omega
      subst hi207
      refine M_aload_n (pc := 72) C dX8_goBack_72 rfl (by decide) ?_
      refine A_cV (pc := 73) C (x := vI (filF (cpA R (v 87) 0 (207 * x) 207))) (a := 84) (c := 8) (c_X8_files hT hI2) yw_X8_files lk_X8_84 rfl (congrArg Prod.fst (tt_84 hT)) hc_8 rfl dX8_goBack_73 rfl (Nat.le_of_ble_eq_true rfl) (by decide) ⟨Nat.le_refl _, Nat.le_refl _⟩ ?_
      exact M_iret (pc := 76) C rfl dX8_goBack_76 rfl rfl
    · refine M_aload_n (pc := 48) C dX8_goBack_48 rfl (by decide) ?_
      refine A_getR (pc := 49) C fl_X8_7 rfl (a := 84) (j := 85) rfl (tt_84 hT) rfl dX8_goBack_49 ?_
      refine M_iload_n (pc := 52) C dX8_goBack_52 rfl ?_
      refine M_aload_n (pc := 53) C dX8_goBack_53 rfl (by decide) ?_
      refine A_getR (pc := 54) C fl_X8_16 rfl (a := 84) (j := 87) rfl (tt_84 hT) rfl dX8_goBack_54 ?_
      refine M_sipush (pc := 57) C (by decide) dX8_goBack_57 ?_
      refine M_iload_n (pc := 60) C dX8_goBack_60 rfl ?_
      refine M_imul (pc := 61) C dX8_goBack_61 ?_
      refine M_iload_n (pc := 62) C dX8_goBack_62 rfl ?_
      refine M_iadd (pc := 63) C dX8_goBack_63 ?_
      refine A_iald (pc := 64) C (a := 87) (q := (207 * x + i)) rfl (tt_87 hT) (by decide) (by omega) (by omega) dX8_goBack_64 (fun (r_64 : i32 (v 87 (207 * x + i))) => ?_)
      refine M.to (pc := 65) (st2 := [vI (v 87 (207 * x + i)), vI ((i : Nat) : Int), vR 85]) ?_ rfl rfl rfl
      refine A_iast (pc := 65) C (a := 85) (q := i) rfl (tt_85 hT) (by decide) rfl (by omega) (by omega) dX8_goBack_65 ?_
      refine M.to (pc := 66) (v2 := sa (sa (sa (sa (sa (sa v 86 (svP P R s)) 84 (rs (rs G 13 0) 5 ((svN s : Nat) : Int))) 94 F) 93 O) 88 A) 85 (rs (cpA R (v 87) 0 (207 * x) i) i (v 87 (207 * x + i)))) ?_ rfl rfl (by rw [sa_up0])
      refine M_iinc (pc := 66) C dX8_goBack_66 rfl (by decide) ?_
      refine M_goto (pc := 69) C (tgt := 41) dX8_goBack_69 (by decide) ?_
      exact M.to (ih (by omega)) rfl rfl (by rw [show rs (cpA R (v 87) 0 (207 * x) i) i (v 87 (207 * x + i)) = cpA R (v 87) 0 (207 * x) (i + 1) from by have h := cpA_s R (v 87) 0 (207 * x) i; rw [Nat.zero_add] at h; exact h])
  · exfalso
    omega
