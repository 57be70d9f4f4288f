theorem c_X8_fails {N : Nat} {T : Ty} {x : Int} {v : Ct} (hT : TT T) (hx : i32 x) : Runs mX8_fails 0 0 0 [vR 84, vI x] N T v (some (vI 0)) N T (up v 84 13 x) := by
  refine Runs.of (by decide) (Nat.le_of_ble_eq_true rfl) fun κ C => ?_
  refine M_aload_n (pc := 0) C dX8_fails_0 rfl (by decide) ?_
  refine M_iload_n (pc := 1) C dX8_fails_1 rfl ?_
  refine A_putI (pc := 2) C fl_X8_41 rfl (by decide) (a := 84) rfl (tt_84 hT) (by omega) dX8_fails_2 ?_
  refine M_iconst (pc := 5) C dX8_fails_5 ?_
  exact M_iret (pc := 6) C rfl dX8_fails_6 rfl rfl
theorem c_X8_save_l {N : Nat} {T : Ty} {P G F O A R : Nat → Int} {s : Nat} {v : Ct} (hT : TT T) (hs : G 5 = (s : Int)) (hs6 : s < 6) : Runs mX8_save 0 0 0 [vR 84] N T (sa (sa (sa (sa (sa (sa v 86 P) 84 G) 94 F) 93 O) 88 A) 85 R) none N T (sa (sa (sa (sa (sa (sa v 86 (cpA P R (207 * s) 0 207)) 84 (rs G 5 ((s + 1 : Nat) : Int))) 94 F) 93 O) 88 A) 85 R) := by
  refine Runs.of (by decide) (Nat.le_of_ble_eq_true rfl) fun κ C => ?_
  refine M_aload_n (pc := 0) C dX8_save_0 rfl (by decide) ?_
  refine A_getI (pc := 1) C fl_X8_78 rfl (a := 84) rfl (tt_84 hT) dX8_save_1 (fun (r_1 : i32 (G 5)) => ?_)
  refine M.to (pc := 4) (st2 := [vI (G 5)]) ?_ rfl rfl rfl
  refine M_bipush (pc := 4) C (by decide) dX8_save_4 ?_
  refine M_icmp_ne (pc := 6) C (tgt := 50) (by omega) (by omega) dX8_save_6 (by decide) (fun h_6 => ?_) (fun h_6 => ?_)
  · refine M_iconst (pc := 50) C dX8_save_50 ?_
    refine M_istore_n (pc := 51) C dX8_save_51 (by decide) ?_
    refine M.to (v2 := sa (sa (sa (sa (sa (sa v 86 (cpA P R (207 * s) 0 0)) 84 G) 94 F) 93 O) 88 A) 85 R) ?_ rfl rfl (by rw [cpA_0])
    refine loop_le (P := fun i => M κ N T 52 [some (vR 84), some (vI ((i : Nat) : Int))] [] (sa (sa (sa (sa (sa (sa v 86 (cpA P R (207 * s) 0 i)) 84 G) 94 F) 93 O) 88 A) 85 R) 0 0 (QR κ none N T (sa (sa (sa (sa (sa (sa v 86 (cpA P R (207 * s) 0 207)) 84 (rs G 5 ((s + 1 : Nat) : Int))) 94 F) 93 O) 88 A) 85 R) 0 0)) 207 (fun i hi ih => ?_)
    refine M_iload_n (pc := 52) C dX8_save_52 rfl ?_
    refine M_sipush (pc := 53) C (by decide) dX8_save_53 ?_
    refine M_icmp_ge (pc := 56) C (tgt := 86) (by omega) (by omega) dX8_save_56 (by decide) (fun h_56 => ?_) (fun h_56 => ?_)
    · have hi207 : i = 207 := by omega
      subst hi207
      refine M_aload_n (pc := 86) C dX8_save_86 rfl (by decide) ?_
      refine M_dup (pc := 87) C rfl dX8_save_87 ?_
      refine A_getI (pc := 88) C fl_X8_78 rfl (a := 84) rfl (tt_84 hT) dX8_save_88 (fun (r_88 : i32 (G 5)) => ?_)
      refine M.to (pc := 91) (st2 := [vI (G 5), vR 84]) ?_ rfl rfl rfl
      refine M_iconst (pc := 91) C dX8_save_91 ?_
      refine M_iadd (pc := 92) C dX8_save_92 ?_
      refine M.to (st2 := [vI ((s + 1 : Nat) : Int), vR 84]) ?_ rfl (by rw [show G 5 + 1 = ((s + 1 : Nat) : Int) by omega]) rfl
      refine A_putI (pc := 93) C fl_X8_78 rfl (by decide) (a := 84) rfl (tt_84 hT) (by omega) dX8_save_93 ?_
      refine M.to (pc := 96) (v2 := sa (sa (sa (sa (sa (sa v 86 (cpA P R (207 * s) 0 207)) 84 (rs G 5 ((s + 1 : Nat) : Int))) 94 F) 93 O) 88 A) 85 R) ?_ rfl rfl (by rw [sa_up1 (by decide), sa_up1 (by decide), sa_up1 (by decide), sa_up1 (by decide), sa_up0])
      exact M_vret (pc := 96) C rfl dX8_save_96 rfl rfl
    · refine M_aload_n (pc := 59) C dX8_save_59 rfl (by decide) ?_
      refine A_getR (pc := 60) C fl_X8_13 rfl (a := 84) (j := 86) rfl (tt_84 hT) rfl dX8_save_60 ?_
      refine M_sipush (pc := 63) C (by decide) dX8_save_63 ?_
      refine M_aload_n (pc := 66) C dX8_save_66 rfl (by decide) ?_
      refine A_getI (pc := 67) C fl_X8_78 rfl (a := 84) rfl (tt_84 hT) dX8_save_67 (fun (r_67 : i32 (G 5)) => ?_)
      refine M.to (pc := 70) (st2 := [vI (G 5), vI 207, vR 86]) ?_ rfl rfl rfl
      refine M_imul (pc := 70) C dX8_save_70 ?_
      refine M_iload_n (pc := 71) C dX8_save_71 rfl ?_
      refine M_iadd (pc := 72) C dX8_save_72 ?_
      refine M_aload_n (pc := 73) C dX8_save_73 rfl (by decide) ?_
      refine A_getR (pc := 74) C fl_X8_7 rfl (a := 84) (j := 85) rfl (tt_84 hT) rfl dX8_save_74 ?_
      refine M_iload_n (pc := 77) C dX8_save_77 rfl ?_
      refine A_iald (pc := 78) C (a := 85) (q := i) rfl (tt_85 hT) (by decide) rfl (by omega) dX8_save_78 (fun (r_78 : i32 (R i)) => ?_)
      refine M.to (pc := 79) (st2 := [vI (R i), vI ((207 * (G 5)) + ((i : Nat) : Int)), vR 86]) ?_ rfl rfl rfl
      refine A_iast (pc := 79) C (a := 86) (q := (207 * s + i)) rfl (tt_86 hT) (by decide) (by omega) (by omega) (by omega) dX8_save_79 ?_
      refine M.to (pc := 80) (v2 := sa (sa (sa (sa (sa (sa v 86 (rs (cpA P R (207 * s) 0 i) (207 * s + i) (R i))) 84 G) 94 F) 93 O) 88 A) 85 R) ?_ rfl rfl (by rw [sa_up1 (by decide), sa_up1 (by decide), sa_up1 (by decide), sa_up1 (by decide), sa_up1 (by decide), sa_up0])
      refine M_iinc (pc := 80) C dX8_save_80 rfl (by decide) ?_
      refine M_goto (pc := 83) C (tgt := 52) dX8_save_83 (by decide) ?_
      exact M.to (ih (by omega)) rfl rfl (by rw [show rs (cpA P R (207 * s) 0 i) (207 * s + i) (R i) = cpA P R (207 * s) 0 (i + 1) from by have h := cpA_s P R (207 * s) 0 i; rw [Nat.zero_add] at h; exact h])
  · exfalso
    omega
theorem c_X8_save_6 {N : Nat} {T : Ty} {P G F O A R : Nat → Int} {v : Ct} (hT : TT T) (hs : G 5 = 6) : Runs mX8_save 0 0 0 [vR 84] N T (sa (sa (sa (sa (sa (sa v 86 P) 84 G) 94 F) 93 O) 88 A) 85 R) none N T (sa (sa (sa (sa (sa (sa v 86 (cpA (cpA P P 0 207 1035) R 1035 0 207)) 84 (rs G 5 6)) 94 F) 93 O) 88 A) 85 R) := by
  refine Runs.of (by decide) (Nat.le_of_ble_eq_true rfl) fun κ C => ?_
  refine M_aload_n (pc := 0) C dX8_save_0 rfl (by decide) ?_
  refine A_getI (pc := 1) C fl_X8_78 rfl (a := 84) rfl (tt_84 hT) dX8_save_1 (fun (r_1 : i32 (G 5)) => ?_)
  refine M.to (pc := 4) (st2 := [vI (G 5)]) ?_ rfl rfl rfl
  refine M_bipush (pc := 4) C (by decide) dX8_save_4 ?_
  refine M_icmp_ne (pc := 6) C (tgt := 50) (by omega) (by omega) dX8_save_6 (by decide) (fun h_6 => ?_) (fun h_6 => ?_)
  · exfalso
    omega
  · refine M_iconst (pc := 9) C dX8_save_9 ?_
    refine M_istore_n (pc := 10) C dX8_save_10 (by decide) ?_
    refine M.to (v2 := sa (sa (sa (sa (sa (sa v 86 (cpA P P 0 207 0)) 84 G) 94 F) 93 O) 88 A) 85 R) ?_ rfl rfl (by rw [cpA_0])
    refine loop_le (P := fun i => M κ N T 11 [some (vR 84), some (vI ((i : Nat) : Int))] [] (sa (sa (sa (sa (sa (sa v 86 (cpA P P 0 207 i)) 84 G) 94 F) 93 O) 88 A) 85 R) 0 0 (QR κ none N T (sa (sa (sa (sa (sa (sa v 86 (cpA (cpA P P 0 207 1035) R 1035 0 207)) 84 (rs G 5 6)) 94 F) 93 O) 88 A) 85 R) 0 0)) 1035 (fun i hi ih => ?_)
    refine M_iload_n (pc := 11) C dX8_save_11 rfl ?_
    refine M_sipush (pc := 12) C (by decide) dX8_save_12 ?_
    refine M_icmp_ge (pc := 15) C (tgt := 40) (by omega) (by omega) dX8_save_15 (by decide) (fun h_15 => ?_) (fun h_15 => ?_)
    · have hi1035 : i = 1035 := by omega
      subst hi1035
      refine M_aload_n (pc := 40) C dX8_save_40 rfl (by decide) ?_
      refine M_dup (pc := 41) C rfl dX8_save_41 ?_
      refine A_getI (pc := 42) C fl_X8_78 rfl (a := 84) rfl (tt_84 hT) dX8_save_42 (fun (r_42 : i32 (G 5)) => ?_)
      refine M.to (pc := 45) (st2 := [vI (G 5), vR 84]) ?_ rfl rfl rfl
      refine M_iconst (pc := 45) C dX8_save_45 ?_
      refine M_isub (pc := 46) C dX8_save_46 ?_
      refine A_putI (pc := 47) C fl_X8_78 rfl (by decide) (a := 84) rfl (tt_84 hT) (by omega) dX8_save_47 ?_
      refine M.to (pc := 50) (v2 := sa (sa (sa (sa (sa (sa v 86 (cpA P P 0 207 1035)) 84 (rs G 5 ((G 5) - 1))) 94 F) 93 O) 88 A) 85 R) ?_ rfl rfl (by rw [sa_up1 (by decide), sa_up1 (by decide), sa_up1 (by decide), sa_up1 (by decide), sa_up0])
      refine M_iconst (pc := 50) C dX8_save_50 ?_
      refine M_istore_n (pc := 51) C dX8_save_51 (by decide) ?_
      refine M.to (v2 := sa (sa (sa (sa (sa (sa v 86 (cpA (cpA P P 0 207 1035) R 1035 0 0)) 84 (rs G 5 5)) 94 F) 93 O) 88 A) 85 R) ?_ rfl rfl (by rw [cpA_0, hs]; rfl)
      refine loop_le (P := fun i => M κ N T 52 [some (vR 84), some (vI ((i : Nat) : Int))] [] (sa (sa (sa (sa (sa (sa v 86 (cpA (cpA P P 0 207 1035) R 1035 0 i)) 84 (rs G 5 5)) 94 F) 93 O) 88 A) 85 R) 0 0 (QR κ none N T (sa (sa (sa (sa (sa (sa v 86 (cpA (cpA P P 0 207 1035) R 1035 0 207)) 84 (rs G 5 6)) 94 F) 93 O) 88 A) 85 R) 0 0)) 207 (fun i hi ih => ?_)
      refine M_iload_n (pc := 52) C dX8_save_52 rfl ?_
      refine M_sipush (pc := 53) C (by decide) dX8_save_53 ?_
      refine M_icmp_ge (pc := 56) C (tgt := 86) (by omega) (by omega) dX8_save_56 (by decide) (fun h_56 => ?_) (fun h_56 => ?_)
      · have hi207 : i = 207 := by omega
        subst hi207
        refine M_aload_n (pc := 86) C dX8_save_86 rfl (by decide) ?_
        refine M_dup (pc := 87) C rfl dX8_save_87 ?_
        refine A_getI (pc := 88) C fl_X8_78 rfl (a := 84) rfl (tt_84 hT) dX8_save_88 (fun (r_88 : i32 ((rs G 5 5) 5)) => ?_)
        refine M.to (pc := 91) (st2 := [vI ((rs G 5 5) 5), vR 84]) ?_ rfl rfl rfl
        refine M_iconst (pc := 91) C dX8_save_91 ?_
        refine M_iadd (pc := 92) C dX8_save_92 ?_
        refine M.to (st2 := [vI 6, vR 84]) ?_ rfl (by rw [rs_eq]; rfl) rfl
        refine A_putI (pc := 93) C fl_X8_78 rfl (by decide) (a := 84) rfl (tt_84 hT) (by omega) dX8_save_93 ?_
        refine M.to (pc := 96) (v2 := sa (sa (sa (sa (sa (sa v 86 (cpA (cpA P P 0 207 1035) R 1035 0 207)) 84 (rs (rs G 5 5) 5 6)) 94 F) 93 O) 88 A) 85 R) ?_ rfl rfl (by rw [sa_up1 (by decide), sa_up1 (by decide), sa_up1 (by decide), sa_up1 (by decide), sa_up0])
        exact M_vret (pc := 96) C rfl dX8_save_96 (by rw [rs_rs]) rfl
      · refine M_aload_n (pc := 59) C dX8_save_59 rfl (by decide) ?_
        refine A_getR (pc := 60) C fl_X8_13 rfl (a := 84) (j := 86) rfl (tt_84 hT) rfl dX8_save_60 ?_
        refine M_sipush (pc := 63) C (by decide) dX8_save_63 ?_
        refine M_aload_n (pc := 66) C dX8_save_66 rfl (by decide) ?_
        refine A_getI (pc := 67) C fl_X8_78 rfl (a := 84) rfl (tt_84 hT) dX8_save_67 (fun (r_67 : i32 ((rs G 5 5) 5)) => ?_)
        refine M.to (pc := 70) (st2 := [vI ((rs G 5 5) 5), vI 207, vR 86]) ?_ rfl rfl rfl
        have e5 : (rs G 5 5) 5 = 5 := rs_eq _ _ _
        refine M_imul (pc := 70) C dX8_save_70 ?_
        refine M_iload_n (pc := 71) C dX8_save_71 rfl ?_
        refine M_iadd (pc := 72) C dX8_save_72 ?_
        refine M_aload_n (pc := 73) C dX8_save_73 rfl (by decide) ?_
        refine A_getR (pc := 74) C fl_X8_7 rfl (a := 84) (j := 85) rfl (tt_84 hT) rfl dX8_save_74 ?_
        refine M_iload_n (pc := 77) C dX8_save_77 rfl ?_
        refine A_iald (pc := 78) C (a := 85) (q := i) rfl (tt_85 hT) (by decide) rfl (by omega) dX8_save_78 (fun (r_78 : i32 (R i)) => ?_)
        refine M.to (pc := 79) (st2 := [vI (R i), vI ((207 * ((rs G 5 5) 5)) + ((i : Nat) : Int)), vR 86]) ?_ rfl rfl rfl
        refine A_iast (pc := 79) C (a := 86) (q := (1035 + i)) rfl (tt_86 hT) (by decide) (by omega) (by omega) (by omega) dX8_save_79 ?_
        refine M.to (pc := 80) (v2 := sa (sa (sa (sa (sa (sa v 86 (rs (cpA (cpA P P 0 207 1035) R 1035 0 i) (1035 + i) (R i))) 84 (rs G 5 5)) 94 F) 93 O) 88 A) 85 R) ?_ rfl rfl (by rw [sa_up1 (by decide), sa_up1 (by decide), sa_up1 (by decide), sa_up1 (by decide), sa_up1 (by decide), sa_up0])
        refine M_iinc (pc := 80) C dX8_save_80 rfl (by decide) ?_
        refine M_goto (pc := 83) C (tgt := 52) dX8_save_83 (by decide) ?_
        exact M.to (ih (by omega)) rfl rfl (by rw [show rs (cpA (cpA P P 0 207 1035) R 1035 0 i) (1035 + i) (R i) = cpA (cpA P P 0 207 1035) R 1035 0 (i + 1) from by have h := cpA_s (cpA P P 0 207 1035) R 1035 0 i; rw [Nat.zero_add] at h; exact h])
    · refine M_aload_n (pc := 18) C dX8_save_18 rfl (by decide) ?_
      refine A_getR (pc := 19) C fl_X8_13 rfl (a := 84) (j := 86) rfl (tt_84 hT) rfl dX8_save_19 ?_
      refine M_iload_n (pc := 22) C dX8_save_22 rfl ?_
      refine M_aload_n (pc := 23) C dX8_save_23 rfl (by decide) ?_
      refine A_getR (pc := 24) C fl_X8_13 rfl (a := 84) (j := 86) rfl (tt_84 hT) rfl dX8_save_24 ?_
      refine M_sipush (pc := 27) C (by decide) dX8_save_27 ?_
      refine M_iload_n (pc := 30) C dX8_save_30 rfl ?_
      refine M_iadd (pc := 31) C dX8_save_31 ?_
      refine A_iald (pc := 32) C (a := 86) (q := (207 + i)) rfl (tt_86 hT) (by decide) (by omega) (by omega) dX8_save_32 (fun (r_32 : i32 ((cpA P P 0 207 i) (207 + i))) => ?_)
      refine M.to (pc := 33) (st2 := [vI ((cpA P P 0 207 i) (207 + i)), vI ((i : Nat) : Int), vR 86]) ?_ rfl rfl rfl
      refine A_iast (pc := 33) C (a := 86) (q := i) rfl (tt_86 hT) (by decide) rfl (by omega) (by omega) dX8_save_33 ?_
      refine M.to (pc := 34) (v2 := sa (sa (sa (sa (sa (sa v 86 (rs (cpA P P 0 207 i) i ((cpA P P 0 207 i) (207 + i)))) 84 G) 94 F) 93 O) 88 A) 85 R) ?_ rfl rfl (by rw [sa_up1 (by decide), sa_up1 (by decide), sa_up1 (by decide), sa_up1 (by decide), sa_up1 (by decide), sa_up0])
      refine M_iinc (pc := 34) C dX8_save_34 rfl (by decide) ?_
      refine M_goto (pc := 37) C (tgt := 11) dX8_save_37 (by decide) ?_
      exact M.to (ih (by omega)) rfl rfl (by rw [show rs (cpA P P 0 207 i) i ((cpA P P 0 207 i) (207 + i)) = cpA P P 0 207 (i + 1) from by have h := cpA_s P P 0 207 i; rw [Nat.zero_add] at h; rw [cpA_ge (by omega)]; exact h])
theorem c_X8_save {N : Nat} {T : Ty} {P G F O A R : Nat → Int} {s : Nat} {v : Ct} (hT : TT T) (hs : G 5 = (s : Int)) (hs6 : s ≤ 6) : Runs mX8_save 0 0 0 [vR 84] N T (sa (sa (sa (sa (sa (sa v 86 P) 84 G) 94 F) 93 O) 88 A) 85 R) none N T (sa (sa (sa (sa (sa (sa v 86 (svP P R s)) 84 (rs G 5 ((svN s : Nat) : Int))) 94 F) 93 O) 88 A) 85 R) := by
  by_cases h : s = 6
  · subst h
    exact c_X8_save_6 hT hs
  · unfold svP svN
    rw [if_neg h, if_neg h]
    exact c_X8_save_l hT hs (by omega)
theorem c_X8_create_b {N : Nat} {T : Ty} {G : Nat → Int} {x : Int} {v : Ct} (hT : TT T) (hx : i32 x) (hb : inB x 0 200 = false) : Runs mX8_create 1 0 0 [vR 84, vI x] N T (sa v 84 G) (some (vI 0)) N T (sa v 84 (rs G 13 1)) := by
  refine Runs.of (by decide) (Nat.le_of_ble_eq_true rfl) fun κ C => ?_
  refine M_aload_n (pc := 0) C dX8_create_0 rfl (by decide) ?_
  refine M_iconst (pc := 1) C dX8_create_1 ?_
  refine A_putI (pc := 2) C fl_X8_41 rfl (by decide) (a := 84) rfl (tt_84 hT) (by omega) dX8_create_2 ?_
  refine M.to (pc := 5) (v2 := sa v 84 (rs G 13 0)) ?_ rfl rfl (by rw [sa_up0])
  refine M_iload_n (pc := 5) C dX8_create_5 rfl ?_
  refine M_iconst (pc := 6) C dX8_create_6 ?_
  refine M_sipush (pc := 7) C (by decide) dX8_create_7 ?_
  refine A_cS (pc := 10) C (x := vI (Bi (inB x 0 200))) (c_X8_in hT (x := x) (a := 0) (b := 200) (by omega) (by omega) (by omega)) yw_X8_in lk_X8_45 rfl dX8_create_10 rfl (Nat.le_of_ble_eq_true rfl) (by decide) ⟨Nat.le_refl _, Nat.le_refl _⟩ ?_
  refine M_if_ne (pc := 13) C (tgt := 22) (Bi_i32 _) dX8_create_13 (by decide) (fun h => absurd hb (by rw [Bi_ne0 h]; decide)) (fun _ => ?_)
  refine M_aload_n (pc := 16) C dX8_create_16 rfl (by decide) ?_
  refine M_iconst (pc := 17) C dX8_create_17 ?_
  refine A_cV (pc := 18) C (x := vI 0) (a := 84) (c := 8) (c_X8_fails hT (x := 1) (by decide)) yw_X8_fails lk_X8_81 rfl (congrArg Prod.fst (tt_84 hT)) hc_8 rfl dX8_create_18 rfl (Nat.le_of_ble_eq_true rfl) (by decide) ⟨Nat.le_refl _, Nat.le_refl _⟩ ?_
  refine M.to (v2 := sa v 84 (rs (rs G 13 0) 13 1)) ?_ rfl rfl (by rw [sa_up0])
  exact M_iret (pc := 21) C rfl dX8_create_21 rfl (by rw [rs_rs])
theorem c_X8_create {N : Nat} {T : Ty} {P G F O A R : Nat → Int} {s x : Nat} {v : Ct} (hT : TT T) (hs : G 5 = (s : Int)) (hs6 : s ≤ 6) (hI : RI R) (hx : x ≤ 200) : Runs mX8_create 9 0 0 [vR 84, vI ((x : Nat) : Int)] N T (sa (sa (sa (sa (sa (sa v 86 P) 84 G) 94 F) 93 O) 88 A) 85 R) (some (vI (crV R x))) N T (sa (sa (sa (sa (sa (sa v 86 (svP P R s)) 84 (rs (rs G 13 0) 5 ((svN s : Nat) : Int))) 94 F) 93 O) 88 (cpA A R 0 0 207)) 85 (crR R x)) := by
  have hb : inB ((x : Nat) : Int) 0 200 = true := inB_t (by omega) (by omega)
  refine Runs.of (by decide) (Nat.le_of_ble_eq_true rfl) fun κ C => ?_
  refine M_aload_n (pc := 0) C dX8_create_0 rfl (by decide) ?_
  refine M_iconst (pc := 1) C dX8_create_1 ?_
  refine A_putI (pc := 2) C fl_X8_41 rfl (by decide) (a := 84) rfl (tt_84 hT) (by omega) dX8_create_2 ?_
  refine M.to (pc := 5) (v2 := sa (sa (sa (sa (sa (sa v 86 P) 84 (rs G 13 0)) 94 F) 93 O) 88 A) 85 R) ?_ rfl rfl (by rw [sa_up1 (by decide), sa_up1 (by decide), sa_up1 (by decide), sa_up1 (by decide), sa_up0])
  refine M_iload_n (pc := 5) C dX8_create_5 rfl ?_
  refine M_iconst (pc := 6) C dX8_create_6 ?_
  refine M_sipush (pc := 7) C (by decide) dX8_create_7 ?_
  refine A_cS (pc := 10) C (x := vI (Bi (inB ((x : Nat) : Int) 0 200))) (c_X8_in hT (x := ((x : Nat) : Int)) (a := 0) (b := 200) (by omega) (by omega) (by omega)) yw_X8_in lk_X8_45 rfl dX8_create_10 rfl (Nat.le_of_ble_eq_true rfl) (by decide) ⟨Nat.le_refl _, Nat.le_refl _⟩ ?_
  refine M_if_ne (pc := 13) C (tgt := 22) (Bi_i32 _) dX8_create_13 (by decide) (fun _ => ?_) (fun h => absurd hb (by rw [Bi_eq0 h]; decide))
  refine M_aload_n (pc := 22) C dX8_create_22 rfl (by decide) ?_
  refine A_cVv (pc := 23) C (a := 84) (c := 8) (c_X8_save hT (v := v) (P := P) (G := rs G 13 0) (F := F) (O := O) (A := A) (R := R) (s := s) (by rw [rs_ne (by decide)]; exact hs) hs6) yw_X8_save lk_X8_87 rfl (congrArg Prod.fst (tt_84 hT)) hc_8 rfl dX8_create_23 rfl (Nat.le_of_ble_eq_true rfl) (by decide) ⟨Nat.le_refl _, Nat.le_refl _⟩ ?_
  refine M_aload_n (pc := 26) C dX8_create_26 rfl (by decide) ?_
  refine M_iload_n (pc := 27) C dX8_create_27 rfl ?_
  refine A_cV (pc := 28) C (x := vI (crV R x)) (a := 84) (c := 8) (c_X8_creates hT (v := sa (sa (sa (sa v 86 (svP P R s)) 84 (rs (rs G 13 0) 5 ((svN s : Nat) : Int))) 94 F) 93 O) (A := A) (R := R) (s := x) hI (by omega)) yw_X8_creates lk_X8_131 rfl (congrArg Prod.fst (tt_84 hT)) hc_8 rfl dX8_create_28 rfl (Nat.le_of_ble_eq_true rfl) (by decide) ⟨Nat.le_refl _, Nat.le_refl _⟩ ?_
  exact M_iret (pc := 31) C rfl dX8_create_31 rfl rfl
theorem c_X8_grow_b1 {N : Nat} {T : Ty} {G : Nat → Int} {x y : Int} {v : Ct} (hT : TT T) (hx : i32 x) (hb : isF (v 85) x = false) : Runs mX8_grow 2 0 0 [vR 84, vI x, vI y] N T (sa v 84 G) (some (vI 0)) N T (sa v 84 (rs G 13 1)) := by
  refine Runs.of (by decide) (Nat.le_of_ble_eq_true rfl) fun κ C => ?_
  refine M_aload_n (pc := 0) C dX8_grow_0 rfl (by decide) ?_
  refine M_iconst (pc := 1) C dX8_grow_1 ?_
  refine A_putI (pc := 2) C fl_X8_41 rfl (by decide) (a := 84) rfl (tt_84 hT) (by omega) dX8_grow_2 ?_
  refine M.to (pc := 5) (v2 := sa v 84 (rs G 13 0)) ?_ rfl rfl (by rw [sa_up0])
  refine M_aload_n (pc := 5) C dX8_grow_5 rfl (by decide) ?_
  refine M_iload_n (pc := 6) C dX8_grow_6 rfl ?_
  refine A_cV (pc := 7) C (x := vI (Bi (isF (v 85) x))) (a := 84) (c := 8) (c_X8_isFile hT (f := x) (by omega)) yw_X8_isFile lk_X8_53 rfl (congrArg Prod.fst (tt_84 hT)) hc_8 rfl dX8_grow_7 rfl (Nat.le_of_ble_eq_true rfl) (by decide) ⟨Nat.le_refl _, Nat.le_refl _⟩ ?_
  refine M_if_ne (pc := 10) C (tgt := 19) (Bi_i32 _) dX8_grow_10 (by decide) (fun h => absurd hb (by rw [Bi_ne0 h]; decide)) (fun _ => ?_)
  refine M_aload_n (pc := 13) C dX8_grow_13 rfl (by decide) ?_
  refine M_iconst (pc := 14) C dX8_grow_14 ?_
  refine A_cV (pc := 15) C (x := vI 0) (a := 84) (c := 8) (c_X8_fails hT (x := 1) (by decide)) yw_X8_fails lk_X8_81 rfl (congrArg Prod.fst (tt_84 hT)) hc_8 rfl dX8_grow_15 rfl (Nat.le_of_ble_eq_true rfl) (by decide) ⟨Nat.le_refl _, Nat.le_refl _⟩ ?_
  refine M.to (v2 := sa v 84 (rs (rs G 13 0) 13 1)) ?_ rfl rfl (by rw [sa_up0])
  exact M_iret (pc := 18) C rfl dX8_grow_18 rfl (by rw [rs_rs])
theorem c_X8_grow_b2 {N : Nat} {T : Ty} {G : Nat → Int} {f : Nat} {y : Int} {v : Ct} (hT : TT T) (hf : f < 10) (hfi : ro (v 85) f 0 = 1) (hy : i32 y) (hb : inB y 1 200 = false) : Runs mX8_grow 2 0 0 [vR 84, vI ((f : Nat) : Int), vI y] N T (sa v 84 G) (some (vI 0)) N T (sa v 84 (rs G 13 2)) := by
  refine Runs.of (by decide) (Nat.le_of_ble_eq_true rfl) fun κ C => ?_
  refine M_aload_n (pc := 0) C dX8_grow_0 rfl (by decide) ?_
  refine M_iconst (pc := 1) C dX8_grow_1 ?_
  refine A_putI (pc := 2) C fl_X8_41 rfl (by decide) (a := 84) rfl (tt_84 hT) (by omega) dX8_grow_2 ?_
  refine M.to (pc := 5) (v2 := sa v 84 (rs G 13 0)) ?_ rfl rfl (by rw [sa_up0])
  refine M_aload_n (pc := 5) C dX8_grow_5 rfl (by decide) ?_
  refine M_iload_n (pc := 6) C dX8_grow_6 rfl ?_
  refine A_cV (pc := 7) C (x := vI (Bi (decide (ro (v 85) f 0 = 1)))) (a := 84) (c := 8) (c_X8_isFile_n hT (f := f) (by omega)) yw_X8_isFile lk_X8_53 rfl (congrArg Prod.fst (tt_84 hT)) hc_8 rfl dX8_grow_7 rfl (Nat.le_of_ble_eq_true rfl) (by decide) ⟨Nat.le_refl _, Nat.le_refl _⟩ ?_
  refine M_if_ne (pc := 10) C (tgt := 19) (Bi_i32 _) dX8_grow_10 (by decide) (fun h_10 => ?_) (fun h_10 => ?_)
  · have b_10 := Bid_ne0 h_10
    refine M_iload_n (pc := 19) C dX8_grow_19 rfl ?_
    refine M_iconst (pc := 20) C dX8_grow_20 ?_
    refine M_sipush (pc := 21) C (by decide) dX8_grow_21 ?_
    refine A_cS (pc := 24) C (x := vI (Bi (inB y 1 200))) (c_X8_in hT (x := y) (a := 1) (b := 200) (by omega) (by omega) (by omega)) yw_X8_in lk_X8_45 rfl dX8_grow_24 rfl (Nat.le_of_ble_eq_true rfl) (by decide) ⟨Nat.le_refl _, Nat.le_refl _⟩ ?_
    refine M_if_ne (pc := 27) C (tgt := 36) (Bi_i32 _) dX8_grow_27 (by decide) (fun h => absurd hb (by rw [Bi_ne0 h]; decide)) (fun _ => ?_)
    refine M_aload_n (pc := 30) C dX8_grow_30 rfl (by decide) ?_
    refine M_iconst (pc := 31) C dX8_grow_31 ?_
    refine A_cV (pc := 32) C (x := vI 0) (a := 84) (c := 8) (c_X8_fails hT (x := 2) (by decide)) yw_X8_fails lk_X8_81 rfl (congrArg Prod.fst (tt_84 hT)) hc_8 rfl dX8_grow_32 rfl (Nat.le_of_ble_eq_true rfl) (by decide) ⟨Nat.le_refl _, Nat.le_refl _⟩ ?_
    refine M.to (v2 := sa v 84 (rs (rs G 13 0) 13 2)) ?_ rfl rfl (by rw [sa_up0])
    exact M_iret (pc := 35) C rfl dX8_grow_35 rfl (by rw [rs_rs])
  · have b_10 := Bid_eq0 h_10
    exact absurd hfi b_10
theorem c_X8_grow {N : Nat} {T : Ty} {P G F O A R : Nat → Int} {s f n : Nat} {v : Ct} (hT : TT T) (hs : G 5 = (s : Int)) (hs6 : s ≤ 6) (hI : RI R) (hf : f < 10) (hfi : ro R f 0 = 1) (hn1 : 1 ≤ n) (hn : n ≤ 200) : Runs mX8_grow 9 0 0 [vR 84, vI ((f : Nat) : Int), vI ((n : Nat) : Int)] N T (sa (sa (sa (sa (sa (sa v 86 P) 84 G) 94 F) 93 O) 88 A) 85 R) (some (vI (opV (gwO R f n)))) N T (sa (sa (sa (sa (sa (sa v 86 (svP P R s)) 84 (rs (rs G 13 0) 5 ((svN s : Nat) : Int))) 94 F) 93 O) 88 (cpA A R 0 0 207)) 85 (opR R (gwO R f n))) := by
  have hb : inB ((n : Nat) : Int) 1 200 = true := inB_t (by omega) (by omega)
  refine Runs.of (by decide) (Nat.le_of_ble_eq_true rfl) fun κ C => ?_
  refine M_aload_n (pc := 0) C dX8_grow_0 rfl (by decide) ?_
  refine M_iconst (pc := 1) C dX8_grow_1 ?_
  refine A_putI (pc := 2) C fl_X8_41 rfl (by decide) (a := 84) rfl (tt_84 hT) (by omega) dX8_grow_2 ?_
  refine M.to (pc := 5) (v2 := sa (sa (sa (sa (sa (sa v 86 P) 84 (rs G 13 0)) 94 F) 93 O) 88 A) 85 R) ?_ rfl rfl (by rw [sa_up1 (by decide), sa_up1 (by decide), sa_up1 (by decide), sa_up1 (by decide), sa_up0])
  refine M_aload_n (pc := 5) C dX8_grow_5 rfl (by decide) ?_
  refine M_iload_n (pc := 6) C dX8_grow_6 rfl ?_
  refine A_cV (pc := 7) C (x := vI (Bi (decide (ro R f 0 = 1)))) (a := 84) (c := 8) (c_X8_isFile_n hT (f := f) (by omega)) yw_X8_isFile lk_X8_53 rfl (congrArg Prod.fst (tt_84 hT)) hc_8 rfl dX8_grow_7 rfl (Nat.le_of_ble_eq_true rfl) (by decide) ⟨Nat.le_refl _, Nat.le_refl _⟩ ?_
  refine M_if_ne (pc := 10) C (tgt := 19) (Bi_i32 _) dX8_grow_10 (by decide) (fun h_10 => ?_) (fun h_10 => ?_)
  · have b_10 := Bid_ne0 h_10
    refine M_iload_n (pc := 19) C dX8_grow_19 rfl ?_
    refine M_iconst (pc := 20) C dX8_grow_20 ?_
    refine M_sipush (pc := 21) C (by decide) dX8_grow_21 ?_
    refine A_cS (pc := 24) C (x := vI (Bi (inB ((n : Nat) : Int) 1 200))) (c_X8_in hT (x := ((n : Nat) : Int)) (a := 1) (b := 200) (by omega) (by omega) (by omega)) yw_X8_in lk_X8_45 rfl dX8_grow_24 rfl (Nat.le_of_ble_eq_true rfl) (by decide) ⟨Nat.le_refl _, Nat.le_refl _⟩ ?_
    refine M_if_ne (pc := 27) C (tgt := 36) (Bi_i32 _) dX8_grow_27 (by decide) (fun _ => ?_) (fun h => absurd hb (by rw [Bi_eq0 h]; decide))
    refine M_aload_n (pc := 36) C dX8_grow_36 rfl (by decide) ?_
    refine A_cVv (pc := 37) C (a := 84) (c := 8) (c_X8_save hT (v := v) (P := P) (G := rs G 13 0) (F := F) (O := O) (A := A) (R := R) (s := s) (by rw [rs_ne (by decide)]; exact hs) hs6) yw_X8_save lk_X8_87 rfl (congrArg Prod.fst (tt_84 hT)) hc_8 rfl dX8_grow_37 rfl (Nat.le_of_ble_eq_true rfl) (by decide) ⟨Nat.le_refl _, Nat.le_refl _⟩ ?_
    refine M_aload_n (pc := 40) C dX8_grow_40 rfl (by decide) ?_
    refine M_iload_n (pc := 41) C dX8_grow_41 rfl ?_
    refine M_iload_n (pc := 42) C dX8_grow_42 rfl ?_
    refine A_cV (pc := 43) C (x := vI (opV (gwO R f n))) (a := 84) (c := 8) (c_X8_grows hT (v := sa (sa (sa (sa v 86 (svP P R s)) 84 (rs (rs G 13 0) 5 ((svN s : Nat) : Int))) 94 F) 93 O) (A := A) (R := R) (f := f) (n := n) hI (by omega) (by omega)) yw_X8_grows lk_X8_134 rfl (congrArg Prod.fst (tt_84 hT)) hc_8 rfl dX8_grow_43 rfl (Nat.le_of_ble_eq_true rfl) (by decide) ⟨Nat.le_refl _, Nat.le_refl _⟩ ?_
    exact M_iret (pc := 46) C rfl dX8_grow_46 rfl rfl
  · have b_10 := Bid_eq0 h_10
    exact absurd hfi b_10
theorem c_X8_cut_b1 {N : Nat} {T : Ty} {G : Nat → Int} {x y : Int} {v : Ct} (hT : TT T) (hx : i32 x) (hb : isF (v 85) x = false) : Runs mX8_cut 2 0 0 [vR 84, vI x, vI y] N T (sa v 84 G) (some (vI 0)) N T (sa v 84 (rs G 13 1)) := by
  refine Runs.of (by decide) (Nat.le_of_ble_eq_true rfl) fun κ C => ?_
  refine M_aload_n (pc := 0) C dX8_cut_0 rfl (by decide) ?_
  refine M_iconst (pc := 1) C dX8_cut_1 ?_
  refine A_putI (pc := 2) C fl_X8_41 rfl (by decide) (a := 84) rfl (tt_84 hT) (by omega) dX8_cut_2 ?_
  refine M.to (pc := 5) (v2 := sa v 84 (rs G 13 0)) ?_ rfl rfl (by rw [sa_up0])
  refine M_aload_n (pc := 5) C dX8_cut_5 rfl (by decide) ?_
  refine M_iload_n (pc := 6) C dX8_cut_6 rfl ?_
  refine A_cV (pc := 7) C (x := vI (Bi (isF (v 85) x))) (a := 84) (c := 8) (c_X8_isFile hT (f := x) (by omega)) yw_X8_isFile lk_X8_53 rfl (congrArg Prod.fst (tt_84 hT)) hc_8 rfl dX8_cut_7 rfl (Nat.le_of_ble_eq_true rfl) (by decide) ⟨Nat.le_refl _, Nat.le_refl _⟩ ?_
  refine M_if_ne (pc := 10) C (tgt := 19) (Bi_i32 _) dX8_cut_10 (by decide) (fun h => absurd hb (by rw [Bi_ne0 h]; decide)) (fun _ => ?_)
  refine M_aload_n (pc := 13) C dX8_cut_13 rfl (by decide) ?_
  refine M_iconst (pc := 14) C dX8_cut_14 ?_
  refine A_cV (pc := 15) C (x := vI 0) (a := 84) (c := 8) (c_X8_fails hT (x := 1) (by decide)) yw_X8_fails lk_X8_81 rfl (congrArg Prod.fst (tt_84 hT)) hc_8 rfl dX8_cut_15 rfl (Nat.le_of_ble_eq_true rfl) (by decide) ⟨Nat.le_refl _, Nat.le_refl _⟩ ?_
  refine M.to (v2 := sa v 84 (rs (rs G 13 0) 13 1)) ?_ rfl rfl (by rw [sa_up0])
  exact M_iret (pc := 18) C rfl dX8_cut_18 rfl (by rw [rs_rs])
theorem c_X8_cut_b2 {N : Nat} {T : Ty} {G : Nat → Int} {f : Nat} {y : Int} {v : Ct} (hT : TT T) (hf : f < 10) (hfi : ro (v 85) f 0 = 1) (hy : i32 y) (hb : inB y 1 200 = false) : Runs mX8_cut 2 0 0 [vR 84, vI ((f : Nat) : Int), vI y] N T (sa v 84 G) (some (vI 0)) N T (sa v 84 (rs G 13 2)) := by
  refine Runs.of (by decide) (Nat.le_of_ble_eq_true rfl) fun κ C => ?_
  refine M_aload_n (pc := 0) C dX8_cut_0 rfl (by decide) ?_
  refine M_iconst (pc := 1) C dX8_cut_1 ?_
  refine A_putI (pc := 2) C fl_X8_41 rfl (by decide) (a := 84) rfl (tt_84 hT) (by omega) dX8_cut_2 ?_
  refine M.to (pc := 5) (v2 := sa v 84 (rs G 13 0)) ?_ rfl rfl (by rw [sa_up0])
  refine M_aload_n (pc := 5) C dX8_cut_5 rfl (by decide) ?_
  refine M_iload_n (pc := 6) C dX8_cut_6 rfl ?_
  refine A_cV (pc := 7) C (x := vI (Bi (decide (ro (v 85) f 0 = 1)))) (a := 84) (c := 8) (c_X8_isFile_n hT (f := f) (by omega)) yw_X8_isFile lk_X8_53 rfl (congrArg Prod.fst (tt_84 hT)) hc_8 rfl dX8_cut_7 rfl (Nat.le_of_ble_eq_true rfl) (by decide) ⟨Nat.le_refl _, Nat.le_refl _⟩ ?_
  refine M_if_ne (pc := 10) C (tgt := 19) (Bi_i32 _) dX8_cut_10 (by decide) (fun h_10 => ?_) (fun h_10 => ?_)
  · have b_10 := Bid_ne0 h_10
    refine M_iload_n (pc := 19) C dX8_cut_19 rfl ?_
    refine M_iconst (pc := 20) C dX8_cut_20 ?_
    refine M_sipush (pc := 21) C (by decide) dX8_cut_21 ?_
    refine A_cS (pc := 24) C (x := vI (Bi (inB y 1 200))) (c_X8_in hT (x := y) (a := 1) (b := 200) (by omega) (by omega) (by omega)) yw_X8_in lk_X8_45 rfl dX8_cut_24 rfl (Nat.le_of_ble_eq_true rfl) (by decide) ⟨Nat.le_refl _, Nat.le_refl _⟩ ?_
    refine M_if_ne (pc := 27) C (tgt := 36) (Bi_i32 _) dX8_cut_27 (by decide) (fun h => absurd hb (by rw [Bi_ne0 h]; decide)) (fun _ => ?_)
    refine M_aload_n (pc := 30) C dX8_cut_30 rfl (by decide) ?_
    refine M_iconst (pc := 31) C dX8_cut_31 ?_
    refine A_cV (pc := 32) C (x := vI 0) (a := 84) (c := 8) (c_X8_fails hT (x := 2) (by decide)) yw_X8_fails lk_X8_81 rfl (congrArg Prod.fst (tt_84 hT)) hc_8 rfl dX8_cut_32 rfl (Nat.le_of_ble_eq_true rfl) (by decide) ⟨Nat.le_refl _, Nat.le_refl _⟩ ?_
    refine M.to (v2 := sa v 84 (rs (rs G 13 0) 13 2)) ?_ rfl rfl (by rw [sa_up0])
    exact M_iret (pc := 35) C rfl dX8_cut_35 rfl (by rw [rs_rs])
  · have b_10 := Bid_eq0 h_10
    exact absurd hfi b_10
theorem c_X8_cut {N : Nat} {T : Ty} {P G F O A R : Nat → Int} {s f n : Nat} {v : Ct} (hT : TT T) (hs : G 5 = (s : Int)) (hs6 : s ≤ 6) (hI : RI R) (hf : f < 10) (hfi : ro R f 0 = 1) (hn1 : 1 ≤ n) (hn : n ≤ 200) : Runs mX8_cut 9 0 0 [vR 84, vI ((f : Nat) : Int), vI ((n : Nat) : Int)] N T (sa (sa (sa (sa (sa (sa v 86 P) 84 G) 94 F) 93 O) 88 A) 85 R) (some (vI (opV (cuO R f n)))) N T (sa (sa (sa (sa (sa (sa v 86 (svP P R s)) 84 (rs (rs G 13 0) 5 ((svN s : Nat) : Int))) 94 F) 93 O) 88 (cpA A R 0 0 207)) 85 (opR R (cuO R f n))) := by
  have hb : inB ((n : Nat) : Int) 1 200 = true := inB_t (by omega) (by omega)
  refine Runs.of (by decide) (Nat.le_of_ble_eq_true rfl) fun κ C => ?_
  refine M_aload_n (pc := 0) C dX8_cut_0 rfl (by decide) ?_
  refine M_iconst (pc := 1) C dX8_cut_1 ?_
  refine A_putI (pc := 2) C fl_X8_41 rfl (by decide) (a := 84) rfl (tt_84 hT) (by omega) dX8_cut_2 ?_
  refine M.to (pc := 5) (v2 := sa (sa (sa (sa (sa (sa v 86 P) 84 (rs G 13 0)) 94 F) 93 O) 88 A) 85 R) ?_ rfl rfl (by rw [sa_up1 (by decide), sa_up1 (by decide), sa_up1 (by decide), sa_up1 (by decide), sa_up0])
  refine M_aload_n (pc := 5) C dX8_cut_5 rfl (by decide) ?_
  refine M_iload_n (pc := 6) C dX8_cut_6 rfl ?_
  refine A_cV (pc := 7) C (x := vI (Bi (decide (ro R f 0 = 1)))) (a := 84) (c := 8) (c_X8_isFile_n hT (f := f) (by omega)) yw_X8_isFile lk_X8_53 rfl (congrArg Prod.fst (tt_84 hT)) hc_8 rfl dX8_cut_7 rfl (Nat.le_of_ble_eq_true rfl) (by decide) ⟨Nat.le_refl _, Nat.le_refl _⟩ ?_
  refine M_if_ne (pc := 10) C (tgt := 19) (Bi_i32 _) dX8_cut_10 (by decide) (fun h_10 => ?_) (fun h_10 => ?_)
  · have b_10 := Bid_ne0 h_10
    refine M_iload_n (pc := 19) C dX8_cut_19 rfl ?_
    refine M_iconst (pc := 20) C dX8_cut_20 ?_
    refine M_sipush (pc := 21) C (by decide) dX8_cut_21 ?_
    refine A_cS (pc := 24) C (x := vI (Bi (inB ((n : Nat) : Int) 1 200))) (c_X8_in hT (x := ((n : Nat) : Int)) (a := 1) (b := 200) (by omega) (by omega) (by omega)) yw_X8_in lk_X8_45 rfl dX8_cut_24 rfl (Nat.le_of_ble_eq_true rfl) (by decide) ⟨Nat.le_refl _, Nat.le_refl _⟩ ?_
    refine M_if_ne (pc := 27) C (tgt := 36) (Bi_i32 _) dX8_cut_27 (by decide) (fun _ => ?_) (fun h => absurd hb (by rw [Bi_eq0 h]; decide))
    refine M_aload_n (pc := 36) C dX8_cut_36 rfl (by decide) ?_
    refine A_cVv (pc := 37) C (a := 84) (c := 8) (c_X8_save hT (v := v) (P := P) (G := rs G 13 0) (F := F) (O := O) (A := A) (R := R) (s := s) (by rw [rs_ne (by decide)]; exact hs) hs6) yw_X8_save lk_X8_87 rfl (congrArg Prod.fst (tt_84 hT)) hc_8 rfl dX8_cut_37 rfl (Nat.le_of_ble_eq_true rfl) (by decide) ⟨Nat.le_refl _, Nat.le_refl _⟩ ?_
    refine M_aload_n (pc := 40) C dX8_cut_40 rfl (by decide) ?_
    refine M_iload_n (pc := 41) C dX8_cut_41 rfl ?_
    refine M_iload_n (pc := 42) C dX8_cut_42 rfl ?_
    refine A_cV (pc := 43) C (x := vI (opV (cuO R f n))) (a := 84) (c := 8) (c_X8_cuts hT (v := sa (sa (sa (sa v 86 (svP P R s)) 84 (rs (rs G 13 0) 5 ((svN s : Nat) : Int))) 94 F) 93 O) (A := A) (R := R) (f := f) (n := n) hI (by omega) (by omega) (by omega)) yw_X8_cuts lk_X8_137 rfl (congrArg Prod.fst (tt_84 hT)) hc_8 rfl dX8_cut_43 rfl (Nat.le_of_ble_eq_true rfl) (by decide) ⟨Nat.le_refl _, Nat.le_refl _⟩ ?_
    exact M_iret (pc := 46) C rfl dX8_cut_46 rfl rfl
  · have b_10 := Bid_eq0 h_10
    exact absurd hfi b_10
theorem c_X8_delete_b {N : Nat} {T : Ty} {G : Nat → Int} {x : Int} {v : Ct} (hT : TT T) (hx : i32 x) (hb : isF (v 85) x = false) : Runs mX8_delete 2 0 0 [vR 84, vI x] N T (sa v 84 G) (some (vI 0)) N T (sa v 84 (rs G 13 1)) := by
  refine Runs.of (by decide) (Nat.le_of_ble_eq_true rfl) fun κ C => ?_
  refine M_aload_n (pc := 0) C dX8_delete_0 rfl (by decide) ?_
  refine M_iconst (pc := 1) C dX8_delete_1 ?_
  refine A_putI (pc := 2) C fl_X8_41 rfl (by decide) (a := 84) rfl (tt_84 hT) (by omega) dX8_delete_2 ?_
  refine M.to (pc := 5) (v2 := sa v 84 (rs G 13 0)) ?_ rfl rfl (by rw [sa_up0])
  refine M_aload_n (pc := 5) C dX8_delete_5 rfl (by decide) ?_
  refine M_iload_n (pc := 6) C dX8_delete_6 rfl ?_
  refine A_cV (pc := 7) C (x := vI (Bi (isF (v 85) x))) (a := 84) (c := 8) (c_X8_isFile hT (f := x) (by omega)) yw_X8_isFile lk_X8_53 rfl (congrArg Prod.fst (tt_84 hT)) hc_8 rfl dX8_delete_7 rfl (Nat.le_of_ble_eq_true rfl) (by decide) ⟨Nat.le_refl _, Nat.le_refl _⟩ ?_
  refine M_if_ne (pc := 10) C (tgt := 19) (Bi_i32 _) dX8_delete_10 (by decide) (fun h => absurd hb (by rw [Bi_ne0 h]; decide)) (fun _ => ?_)
  refine M_aload_n (pc := 13) C dX8_delete_13 rfl (by decide) ?_
  refine M_iconst (pc := 14) C dX8_delete_14 ?_
  refine A_cV (pc := 15) C (x := vI 0) (a := 84) (c := 8) (c_X8_fails hT (x := 1) (by decide)) yw_X8_fails lk_X8_81 rfl (congrArg Prod.fst (tt_84 hT)) hc_8 rfl dX8_delete_15 rfl (Nat.le_of_ble_eq_true rfl) (by decide) ⟨Nat.le_refl _, Nat.le_refl _⟩ ?_
  refine M.to (v2 := sa v 84 (rs (rs G 13 0) 13 1)) ?_ rfl rfl (by rw [sa_up0])
  exact M_iret (pc := 18) C rfl dX8_delete_18 rfl (by rw [rs_rs])
theorem c_X8_delete {N : Nat} {T : Ty} {P G F O A R : Nat → Int} {s f : Nat} {v : Ct} (hT : TT T) (hs : G 5 = (s : Int)) (hs6 : s ≤ 6) (hI : RI R) (hf : f < 10) (hfi : ro R f 0 = 1) : Runs mX8_delete 6 0 0 [vR 84, vI ((f : Nat) : Int)] N T (sa (sa (sa (sa (sa (sa v 86 P) 84 G) 94 F) 93 O) 88 A) 85 R) (some (vI (dlV R f))) N T (sa (sa (sa (sa (sa (sa v 86 (svP P R s)) 84 (rs (rs G 13 0) 5 ((svN s : Nat) : Int))) 94 F) 93 O) 88 A) 85 (dlR R f)) := by
  refine Runs.of (by decide) (Nat.le_of_ble_eq_true rfl) fun κ C => ?_
  refine M_aload_n (pc := 0) C dX8_delete_0 rfl (by decide) ?_
  refine M_iconst (pc := 1) C dX8_delete_1 ?_
  refine A_putI (pc := 2) C fl_X8_41 rfl (by decide) (a := 84) rfl (tt_84 hT) (by omega) dX8_delete_2 ?_
  refine M.to (pc := 5) (v2 := sa (sa (sa (sa (sa (sa v 86 P) 84 (rs G 13 0)) 94 F) 93 O) 88 A) 85 R) ?_ rfl rfl (by rw [sa_up1 (by decide), sa_up1 (by decide), sa_up1 (by decide), sa_up1 (by decide), sa_up0])
  refine M_aload_n (pc := 5) C dX8_delete_5 rfl (by decide) ?_
  refine M_iload_n (pc := 6) C dX8_delete_6 rfl ?_
  refine A_cV (pc := 7) C (x := vI (Bi (decide (ro R f 0 = 1)))) (a := 84) (c := 8) (c_X8_isFile_n hT (f := f) (by omega)) yw_X8_isFile lk_X8_53 rfl (congrArg Prod.fst (tt_84 hT)) hc_8 rfl dX8_delete_7 rfl (Nat.le_of_ble_eq_true rfl) (by decide) ⟨Nat.le_refl _, Nat.le_refl _⟩ ?_
  refine M_if_ne (pc := 10) C (tgt := 19) (Bi_i32 _) dX8_delete_10 (by decide) (fun h_10 => ?_) (fun h_10 => ?_)
  · have b_10 := Bid_ne0 h_10
    refine M_aload_n (pc := 19) C dX8_delete_19 rfl (by decide) ?_
    refine A_cVv (pc := 20) C (a := 84) (c := 8) (c_X8_save hT (v := v) (P := P) (G := rs G 13 0) (F := F) (O := O) (A := A) (R := R) (s := s) (by rw [rs_ne (by decide)]; exact hs) hs6) yw_X8_save lk_X8_87 rfl (congrArg Prod.fst (tt_84 hT)) hc_8 rfl dX8_delete_20 rfl (Nat.le_of_ble_eq_true rfl) (by decide) ⟨Nat.le_refl _, Nat.le_refl _⟩ ?_
    refine M_aload_n (pc := 23) C dX8_delete_23 rfl (by decide) ?_
    refine M_iload_n (pc := 24) C dX8_delete_24 rfl ?_
    refine A_cV (pc := 25) C (x := vI (dlV R f)) (a := 84) (c := 8) (c_X8_deletes hT (v := sa (sa (sa (sa (sa v 86 (svP P R s)) 84 (rs (rs G 13 0) 5 ((svN s : Nat) : Int))) 94 F) 93 O) 88 A) (R := R) (f := f) hI (by omega)) yw_X8_deletes lk_X8_140 rfl (congrArg Prod.fst (tt_84 hT)) hc_8 rfl dX8_delete_25 rfl (Nat.le_of_ble_eq_true rfl) (by decide) ⟨Nat.le_refl _, Nat.le_refl _⟩ ?_
    exact M_iret (pc := 28) C rfl dX8_delete_28 rfl rfl
  · have b_10 := Bid_eq0 h_10
    exact absurd hfi b_10
