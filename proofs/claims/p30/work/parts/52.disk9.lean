theorem c_X5_insert_71 {N : Nat} {T : Ty} {E Lg X : Nat → Int} {f w n : Nat} {v : Ct} (hT : TT T) (hx : X 2 = (n : Int)) (hn : n < 10) (hf : f < 10) (hw : w < 16) : Runs mX5_insert 0 0 0 [vR 71, vI ((f : Nat) : Int), vI ((w : Nat) : Int)] N T (sa (sa (sa v 72 E) 73 Lg) 71 X) none N T (sa (sa (sa v 72 ((inL ((f : Nat) : Int) ((w : Nat) : Int) n E Lg).1)) 73 ((inL ((f : Nat) : Int) ((w : Nat) : Int) n E Lg).2)) 71 (rs X 2 ((n + 1 : Nat) : Int))) := by
  refine Runs.of (by decide) (Nat.le_of_ble_eq_true rfl) fun κ C => ?_
  refine M_aload_n (pc := 0) C dX5_insert_0 rfl (by decide) ?_
  refine A_getI (pc := 1) C fl_X5_18 rfl (a := 71) rfl (tt_71 hT) dX5_insert_1 (fun (r_1 : i32 (X 2)) => ?_)
  refine M.to (pc := 4) (st2 := [vI (X 2)]) ?_ rfl rfl rfl
  refine M_if_lt (pc := 4) C (tgt := 16) (by omega) dX5_insert_4 (by decide) (fun h_4 => ?_) (fun h_4 => ?_)
  · exfalso
    omega
  · refine M_aload_n (pc := 7) C dX5_insert_7 rfl (by decide) ?_
    refine A_getI (pc := 8) C fl_X5_18 rfl (a := 71) rfl (tt_71 hT) dX5_insert_8 (fun (r_8 : i32 (X 2)) => ?_)
    refine M.to (pc := 11) (st2 := [vI (X 2)]) ?_ rfl rfl rfl
    refine M_bipush (pc := 11) C (by decide) dX5_insert_11 ?_
    refine M_icmp_lt (pc := 13) C (tgt := 17) (by omega) (by omega) dX5_insert_13 (by decide) (fun h_13 => ?_) (fun h_13 => ?_)
    · refine M_aload_n (pc := 17) C dX5_insert_17 rfl (by decide) ?_
      refine A_getI (pc := 18) C fl_X5_18 rfl (a := 71) rfl (tt_71 hT) dX5_insert_18 (fun (r_18 : i32 (X 2)) => ?_)
      refine M.to (pc := 21) (st2 := [vI (X 2)]) ?_ rfl rfl rfl
      refine M.to (st2 := [vI ((n : Nat) : Int)]) ?_ rfl (by rw [hx]) rfl
      refine M_istore_n (pc := 21) C dX5_insert_21 (by decide) ?_
      refine loop_ms (S := Nat × ((Nat → Int) × (Nat → Int))) (P := fun S => (S.1 < 10 ∧ inL ((f : Nat) : Int) ((w : Nat) : Int) S.1 S.2.1 S.2.2 = inL ((f : Nat) : Int) ((w : Nat) : Int) n E Lg) → M κ N T 22 [some (vR 71), some (vI ((f : Nat) : Int)), some (vI ((w : Nat) : Int)), some (vI ((S.1 : Nat) : Int))] [] (sa (sa (sa v 72 S.2.1) 73 S.2.2) 71 X) 0 0 (QR κ none N T (sa (sa (sa v 72 ((inL ((f : Nat) : Int) ((w : Nat) : Int) n E Lg).1)) 73 ((inL ((f : Nat) : Int) ((w : Nat) : Int) n E Lg).2)) 71 (rs X 2 ((n + 1 : Nat) : Int))) 0 0)) (fun S => S.1) (fun S ih => ?_) (n, E, Lg) ⟨hn, rfl⟩
      intro hin
      refine M_iload_n (pc := 22) C dX5_insert_22 rfl ?_
      refine M_if_le (pc := 23) C (tgt := 72) (by omega) dX5_insert_23 (by decide) (fun h_23 => ?_) (fun h_23 => ?_)
      · have hE := (inL_0 (x := ((f : Nat) : Int)) (len := ((w : Nat) : Int)) (E := S.2.1) (Lg := S.2.2) (show S.1 = 0 by omega)).symm.trans hin.2
        refine M_aload_n (pc := 72) C dX5_insert_72 rfl (by decide) ?_
        refine A_getR (pc := 73) C fl_X5_9 rfl (a := 71) (j := 72) rfl (tt_71 hT) rfl dX5_insert_73 ?_
        refine M_iload_n (pc := 76) C dX5_insert_76 rfl ?_
        refine M_iload_n (pc := 77) C dX5_insert_77 rfl ?_
        refine A_iast (pc := 78) C (a := 72) (q := S.1) rfl (tt_72 hT) (by decide) (by omega) (by omega) (by omega) dX5_insert_78 ?_
        refine M.to (pc := 79) (v2 := sa (sa (sa v 72 (rs S.2.1 S.1 ((f : Nat) : Int))) 73 S.2.2) 71 X) ?_ rfl rfl (by rw [sa_up1 (by decide), sa_up1 (by decide), sa_up0])
        refine M_aload_n (pc := 79) C dX5_insert_79 rfl (by decide) ?_
        refine A_getR (pc := 80) C fl_X5_15 rfl (a := 71) (j := 73) rfl (tt_71 hT) rfl dX5_insert_80 ?_
        refine M_iload_n (pc := 83) C dX5_insert_83 rfl ?_
        refine M_iload_n (pc := 84) C dX5_insert_84 rfl ?_
        refine A_iast (pc := 85) C (a := 73) (q := S.1) rfl (tt_73 hT) (by decide) (by omega) (by omega) (by omega) dX5_insert_85 ?_
        refine M.to (pc := 86) (v2 := sa (sa (sa v 72 (rs S.2.1 S.1 ((f : Nat) : Int))) 73 (rs S.2.2 S.1 ((w : Nat) : Int))) 71 X) ?_ rfl rfl (by rw [sa_up1 (by decide), sa_up0])
        refine M_aload_n (pc := 86) C dX5_insert_86 rfl (by decide) ?_
        refine M_dup (pc := 87) C rfl dX5_insert_87 ?_
        refine A_getI (pc := 88) C fl_X5_18 rfl (a := 71) rfl (tt_71 hT) dX5_insert_88 (fun (r_88 : i32 (X 2)) => ?_)
        refine M.to (pc := 91) (st2 := [vI (X 2), vR 71]) ?_ rfl rfl rfl
        refine M_iconst (pc := 91) C dX5_insert_91 ?_
        refine M_iadd (pc := 92) C dX5_insert_92 ?_
        refine A_putI (pc := 93) C fl_X5_18 rfl (by decide) (a := 71) rfl (tt_71 hT) (by omega) dX5_insert_93 ?_
        refine M.to (pc := 96) (v2 := sa (sa (sa v 72 (rs S.2.1 S.1 ((f : Nat) : Int))) 73 (rs S.2.2 S.1 ((w : Nat) : Int))) 71 (rs X 2 ((X 2) + 1))) ?_ rfl rfl (by rw [sa_up0])
        exact M_vret (pc := 96) C rfl dX5_insert_96 (by rw [← hE, hx]; rfl) rfl
      · refine M_aload_n (pc := 26) C dX5_insert_26 rfl (by decide) ?_
        refine A_getR (pc := 27) C fl_X5_15 rfl (a := 71) (j := 73) rfl (tt_71 hT) rfl dX5_insert_27 ?_
        refine M_iload_n (pc := 30) C dX5_insert_30 rfl ?_
        refine M_iconst (pc := 31) C dX5_insert_31 ?_
        refine M_isub (pc := 32) C dX5_insert_32 ?_
        refine A_iald (pc := 33) C (a := 73) (q := (S.1 - 1)) rfl (tt_73 hT) (by decide) (by omega) (by omega) dX5_insert_33 (fun (r_33 : i32 (S.2.2 (S.1 - 1))) => ?_)
        refine M.to (pc := 34) (st2 := [vI (S.2.2 (S.1 - 1))]) ?_ rfl rfl rfl
        refine M_iload_n (pc := 34) C dX5_insert_34 rfl ?_
        refine M_icmp_ge (pc := 35) C (tgt := 72) (by omega) (by omega) dX5_insert_35 (by decide) (fun h_35 => ?_) (fun h_35 => ?_)
        · have hE := (inL_stop (x := ((f : Nat) : Int)) (len := ((w : Nat) : Int)) (E := S.2.1) (Lg := S.2.2) (show 0 < S.1 by omega) h_35).symm.trans hin.2
          refine M_aload_n (pc := 72) C dX5_insert_72 rfl (by decide) ?_
          refine A_getR (pc := 73) C fl_X5_9 rfl (a := 71) (j := 72) rfl (tt_71 hT) rfl dX5_insert_73 ?_
          refine M_iload_n (pc := 76) C dX5_insert_76 rfl ?_
          refine M_iload_n (pc := 77) C dX5_insert_77 rfl ?_
          refine A_iast (pc := 78) C (a := 72) (q := S.1) rfl (tt_72 hT) (by decide) (by omega) (by omega) (by omega) dX5_insert_78 ?_
          refine M.to (pc := 79) (v2 := sa (sa (sa v 72 (rs S.2.1 S.1 ((f : Nat) : Int))) 73 S.2.2) 71 X) ?_ rfl rfl (by rw [sa_up1 (by decide), sa_up1 (by decide), sa_up0])
          refine M_aload_n (pc := 79) C dX5_insert_79 rfl (by decide) ?_
          refine A_getR (pc := 80) C fl_X5_15 rfl (a := 71) (j := 73) rfl (tt_71 hT) rfl dX5_insert_80 ?_
          refine M_iload_n (pc := 83) C dX5_insert_83 rfl ?_
          refine M_iload_n (pc := 84) C dX5_insert_84 rfl ?_
          refine A_iast (pc := 85) C (a := 73) (q := S.1) rfl (tt_73 hT) (by decide) (by omega) (by omega) (by omega) dX5_insert_85 ?_
          refine M.to (pc := 86) (v2 := sa (sa (sa v 72 (rs S.2.1 S.1 ((f : Nat) : Int))) 73 (rs S.2.2 S.1 ((w : Nat) : Int))) 71 X) ?_ rfl rfl (by rw [sa_up1 (by decide), sa_up0])
          refine M_aload_n (pc := 86) C dX5_insert_86 rfl (by decide) ?_
          refine M_dup (pc := 87) C rfl dX5_insert_87 ?_
          refine A_getI (pc := 88) C fl_X5_18 rfl (a := 71) rfl (tt_71 hT) dX5_insert_88 (fun (r_88 : i32 (X 2)) => ?_)
          refine M.to (pc := 91) (st2 := [vI (X 2), vR 71]) ?_ rfl rfl rfl
          refine M_iconst (pc := 91) C dX5_insert_91 ?_
          refine M_iadd (pc := 92) C dX5_insert_92 ?_
          refine A_putI (pc := 93) C fl_X5_18 rfl (by decide) (a := 71) rfl (tt_71 hT) (by omega) dX5_insert_93 ?_
          refine M.to (pc := 96) (v2 := sa (sa (sa v 72 (rs S.2.1 S.1 ((f : Nat) : Int))) 73 (rs S.2.2 S.1 ((w : Nat) : Int))) 71 (rs X 2 ((X 2) + 1))) ?_ rfl rfl (by rw [sa_up0])
          exact M_vret (pc := 96) C rfl dX5_insert_96 (by rw [← hE, hx]; rfl) rfl
        · refine M_aload_n (pc := 38) C dX5_insert_38 rfl (by decide) ?_
          refine A_getR (pc := 39) C fl_X5_9 rfl (a := 71) (j := 72) rfl (tt_71 hT) rfl dX5_insert_39 ?_
          refine M_iload_n (pc := 42) C dX5_insert_42 rfl ?_
          refine M_aload_n (pc := 43) C dX5_insert_43 rfl (by decide) ?_
          refine A_getR (pc := 44) C fl_X5_9 rfl (a := 71) (j := 72) rfl (tt_71 hT) rfl dX5_insert_44 ?_
          refine M_iload_n (pc := 47) C dX5_insert_47 rfl ?_
          refine M_iconst (pc := 48) C dX5_insert_48 ?_
          refine M_isub (pc := 49) C dX5_insert_49 ?_
          refine A_iald (pc := 50) C (a := 72) (q := (S.1 - 1)) rfl (tt_72 hT) (by decide) (by omega) (by omega) dX5_insert_50 (fun (r_50 : i32 (S.2.1 (S.1 - 1))) => ?_)
          refine M.to (pc := 51) (st2 := [vI (S.2.1 (S.1 - 1)), vI ((S.1 : Nat) : Int), vR 72]) ?_ rfl rfl rfl
          refine A_iast (pc := 51) C (a := 72) (q := S.1) rfl (tt_72 hT) (by decide) (by omega) (by omega) (by omega) dX5_insert_51 ?_
          refine M.to (pc := 52) (v2 := sa (sa (sa v 72 (rs S.2.1 S.1 (S.2.1 (S.1 - 1)))) 73 S.2.2) 71 X) ?_ rfl rfl (by rw [sa_up1 (by decide), sa_up1 (by decide), sa_up0])
          refine M_aload_n (pc := 52) C dX5_insert_52 rfl (by decide) ?_
          refine A_getR (pc := 53) C fl_X5_15 rfl (a := 71) (j := 73) rfl (tt_71 hT) rfl dX5_insert_53 ?_
          refine M_iload_n (pc := 56) C dX5_insert_56 rfl ?_
          refine M_aload_n (pc := 57) C dX5_insert_57 rfl (by decide) ?_
          refine A_getR (pc := 58) C fl_X5_15 rfl (a := 71) (j := 73) rfl (tt_71 hT) rfl dX5_insert_58 ?_
          refine M_iload_n (pc := 61) C dX5_insert_61 rfl ?_
          refine M_iconst (pc := 62) C dX5_insert_62 ?_
          refine M_isub (pc := 63) C dX5_insert_63 ?_
          refine A_iald (pc := 64) C (a := 73) (q := (S.1 - 1)) rfl (tt_73 hT) (by decide) (by omega) (by omega) dX5_insert_64 (fun (r_64 : i32 (S.2.2 (S.1 - 1))) => ?_)
          refine M.to (pc := 65) (st2 := [vI (S.2.2 (S.1 - 1)), vI ((S.1 : Nat) : Int), vR 73]) ?_ rfl rfl rfl
          refine A_iast (pc := 65) C (a := 73) (q := S.1) rfl (tt_73 hT) (by decide) (by omega) (by omega) (by omega) dX5_insert_65 ?_
          refine M.to (pc := 66) (v2 := sa (sa (sa v 72 (rs S.2.1 S.1 (S.2.1 (S.1 - 1)))) 73 (rs S.2.2 S.1 (S.2.2 (S.1 - 1)))) 71 X) ?_ rfl rfl (by rw [sa_up1 (by decide), sa_up0])
          refine M_iinc (pc := 66) C dX5_insert_66 rfl (by decide) ?_
          refine M.to (L2 := [some (vR 71), some (vI ((f : Nat) : Int)), some (vI ((w : Nat) : Int)), some (vI ((S.1 - 1 : Nat) : Int))]) ?_ (by show [some (vR 71), some (vI ((f : Nat) : Int)), some (vI ((w : Nat) : Int)), some (vI (((S.1 : Nat) : Int) + (-1)))] = _; rw [show ((S.1 : Nat) : Int) + (-1) = ((S.1 - 1 : Nat) : Int) by omega]) rfl rfl
          refine M_goto (pc := 69) C (tgt := 22) dX5_insert_69 (by decide) ?_
          exact M.to (ih (S.1 - 1, rs S.2.1 S.1 (S.2.1 (S.1 - 1)), rs S.2.2 S.1 (S.2.2 (S.1 - 1))) (by show S.1 - 1 < S.1; omega) ⟨by show S.1 - 1 < 10; omega, (inL_go (by omega) h_35).symm.trans hin.2⟩) rfl rfl rfl
    · exfalso
      omega
theorem c_X5_collect_71 {N : Nat} {T : Ty} {E Lg X : Nat → Int} {v : Ct} (hT : TT T) (hD : DI (v 5) (v 6) (v 7) (v 8)) : Runs mX5_collect 3 0 0 [vR 71, vR 1] N T (sa (sa (sa v 72 E) 73 Lg) 71 X) none N T (sa (sa (sa v 72 ((clI (v 5) (v 8) E Lg 10).1)) 73 ((clI (v 5) (v 8) E Lg 10).2.1)) 71 (rs X 2 (((clI (v 5) (v 8) E Lg 10).2.2 : Nat) : Int))) := by
  refine Runs.of (by decide) (Nat.le_of_ble_eq_true rfl) fun κ C => ?_
  refine M_aload_n (pc := 0) C dX5_collect_0 rfl (by decide) ?_
  refine M_iconst (pc := 1) C dX5_collect_1 ?_
  refine A_putI (pc := 2) C fl_X5_18 rfl (by decide) (a := 71) rfl (tt_71 hT) (by omega) dX5_collect_2 ?_
  refine M.to (pc := 5) (v2 := sa (sa (sa v 72 E) 73 Lg) 71 (rs X 2 0)) ?_ rfl rfl (by rw [sa_up0])
  refine M_iconst (pc := 5) C dX5_collect_5 ?_
  refine M_istore_n (pc := 6) C dX5_collect_6 (by decide) ?_
  refine loop_le (P := fun i => M κ N T 7 [some (vR 71), some (vR 1), some (vI ((i : Nat) : Int)), none] [] (sa (sa (sa v 72 ((clI (v 5) (v 8) E Lg i).1)) 73 ((clI (v 5) (v 8) E Lg i).2.1)) 71 (rs X 2 (((clI (v 5) (v 8) E Lg i).2.2 : Nat) : Int))) 0 0 (QR κ none N T (sa (sa (sa v 72 ((clI (v 5) (v 8) E Lg 10).1)) 73 ((clI (v 5) (v 8) E Lg 10).2.1)) 71 (rs X 2 (((clI (v 5) (v 8) E Lg 10).2.2 : Nat) : Int))) 0 0)) 10 (fun i hi ih => ?_)
  have hcl := clI_bd (v 5) (v 8) E Lg i
  refine M_iload_n (pc := 7) C dX5_collect_7 rfl ?_
  refine M_bipush (pc := 8) C (by decide) dX5_collect_8 ?_
  refine M_icmp_ge (pc := 10) C (tgt := 47) (by omega) (by omega) dX5_collect_10 (by decide) (fun h_10 => ?_) (fun h_10 => ?_)
  · have hi10 : i = 10 := by omega
    exact M_vret (pc := 47) C rfl dX5_collect_47 (by rw [hi10]) rfl
  · have hct := clT_bd hD (f := i) (by omega)
    refine M_aload_n (pc := 13) C dX5_collect_13 rfl (by decide) ?_
    refine M_iload_n (pc := 14) C dX5_collect_14 rfl ?_
    refine A_cV (pc := 15) C (x := vI (Bi (decide (v 5 i ≠ -1) && decide (v 8 i = 1)))) (a := 1) (c := 0) (c_X0_isBroken hT (f := i) (by omega)) yw_X0_isBroken lk_X5_22 rfl (congrArg Prod.fst (tt_1 hT)) hc_0 rfl dX5_collect_15 rfl (Nat.le_of_ble_eq_true rfl) (by decide) ⟨Nat.le_refl _, Nat.le_refl _⟩ ?_
    refine M_if_eq (pc := 18) C (tgt := 25) (Bi_i32 _) dX5_collect_18 (by decide) (fun h_18 => ?_) (fun h_18 => ?_)
    · have b_18 := Bi_eq0 h_18
      have hc0 : clT (v 5) (v 8) i = (if v 5 i = -1 then 0 else v 5 i) % 16 := if_neg (fun q => by rw [decide_eq_true q.1, decide_eq_true q.2] at b_18; exact absurd b_18 (by decide))
      refine M_aload_n (pc := 25) C dX5_collect_25 rfl (by decide) ?_
      refine M_iload_n (pc := 26) C dX5_collect_26 rfl ?_
      refine A_cV (pc := 27) C (x := vI ((if v 5 i = -1 then 0 else v 5 i) % 16)) (a := 1) (c := 0) (c_X0_tailCells hT hD (f := i) (by omega)) yw_X0_tailCells lk_X5_28 rfl (congrArg Prod.fst (tt_1 hT)) hc_0 rfl dX5_collect_27 rfl (Nat.le_of_ble_eq_true rfl) (by decide) ⟨Nat.le_refl _, Nat.le_refl _⟩ ?_
      obtain ⟨w, hw⟩ : ∃ w : Nat, clT (v 5) (v 8) i = (w : Int) := ⟨(clT (v 5) (v 8) i).toNat, by omega⟩
      refine M.to (st2 := [vI ((w : Nat) : Int)]) ?_ rfl (by rw [← hw, hc0]) rfl
      refine M_istore_n (pc := 30) C dX5_collect_30 (by decide) ?_
      refine M_iload_n (pc := 31) C dX5_collect_31 rfl ?_
      refine M_if_le (pc := 32) C (tgt := 41) (by omega) dX5_collect_32 (by decide) (fun h_32 => ?_) (fun h_32 => ?_)
      · have hE : clI (v 5) (v 8) E Lg (i + 1) = clI (v 5) (v 8) E Lg i := if_neg (by omega)
        refine M_iinc (pc := 41) C dX5_collect_41 rfl (by decide) ?_
        refine M_goto (pc := 44) C (tgt := 7) dX5_collect_44 (by decide) ?_
        refine M.drop [true, true, true, false] rfl ?_
        exact M.to (ih (by omega)) rfl rfl (by rw [hE])
      · have hE : clI (v 5) (v 8) E Lg (i + 1) = ((inL ((i : Nat) : Int) ((w : Nat) : Int) (clI (v 5) (v 8) E Lg i).2.2 (clI (v 5) (v 8) E Lg i).1 (clI (v 5) (v 8) E Lg i).2.1).1, (inL ((i : Nat) : Int) ((w : Nat) : Int) (clI (v 5) (v 8) E Lg i).2.2 (clI (v 5) (v 8) E Lg i).1 (clI (v 5) (v 8) E Lg i).2.1).2, (clI (v 5) (v 8) E Lg i).2.2 + 1) := by rw [← hw]; exact if_pos (by omega)
        refine M_aload_n (pc := 35) C dX5_collect_35 rfl (by decide) ?_
        refine M_iload_n (pc := 36) C dX5_collect_36 rfl ?_
        refine M_iload_n (pc := 37) C dX5_collect_37 rfl ?_
        refine A_cVv (pc := 38) C (a := 71) (c := 5) (c_X5_insert_71 hT (v := v) (E := (clI (v 5) (v 8) E Lg i).1) (Lg := (clI (v 5) (v 8) E Lg i).2.1) (X := rs X 2 (((clI (v 5) (v 8) E Lg i).2.2 : Nat) : Int)) (f := i) (w := w) (n := (clI (v 5) (v 8) E Lg i).2.2) (rs_eq _ _ _) (by omega) (by omega) (by omega)) yw_X5_insert lk_X5_32 rfl (congrArg Prod.fst (tt_71 hT)) hc_5 rfl dX5_collect_38 rfl (Nat.le_of_ble_eq_true rfl) (by decide) ⟨Nat.le_refl _, Nat.le_refl _⟩ ?_
        refine M.to (v2 := sa (sa (sa v 72 ((clI (v 5) (v 8) E Lg (i + 1)).1)) 73 ((clI (v 5) (v 8) E Lg (i + 1)).2.1)) 71 (rs X 2 (((clI (v 5) (v 8) E Lg (i + 1)).2.2 : Nat) : Int))) ?_ rfl rfl (by rw [hE, rs_rs])
        refine M_iinc (pc := 41) C dX5_collect_41 rfl (by decide) ?_
        refine M_goto (pc := 44) C (tgt := 7) dX5_collect_44 (by decide) ?_
        refine M.drop [true, true, true, false] rfl ?_
        exact M.to (ih (by omega)) rfl rfl (by rw [hE])
    · have b_18 := Bi_ne0 h_18
      have hc0 : clT (v 5) (v 8) i = 0 := if_pos (by rw [Bool.and_eq_true] at b_18; exact ⟨of_decide_eq_true b_18.1, of_decide_eq_true b_18.2⟩)
      refine M_iconst (pc := 21) C dX5_collect_21 ?_
      refine M_goto (pc := 22) C (tgt := 30) dX5_collect_22 (by decide) ?_
      obtain ⟨w, hw⟩ : ∃ w : Nat, clT (v 5) (v 8) i = (w : Int) := ⟨(clT (v 5) (v 8) i).toNat, by omega⟩
      refine M.to (st2 := [vI ((w : Nat) : Int)]) ?_ rfl (by rw [← hw, hc0]) rfl
      refine M_istore_n (pc := 30) C dX5_collect_30 (by decide) ?_
      refine M_iload_n (pc := 31) C dX5_collect_31 rfl ?_
      refine M_if_le (pc := 32) C (tgt := 41) (by omega) dX5_collect_32 (by decide) (fun h_32 => ?_) (fun h_32 => ?_)
      · have hE : clI (v 5) (v 8) E Lg (i + 1) = clI (v 5) (v 8) E Lg i := if_neg (by omega)
        refine M_iinc (pc := 41) C dX5_collect_41 rfl (by decide) ?_
        refine M_goto (pc := 44) C (tgt := 7) dX5_collect_44 (by decide) ?_
        refine M.drop [true, true, true, false] rfl ?_
        exact M.to (ih (by omega)) rfl rfl (by rw [hE])
      · have hE : clI (v 5) (v 8) E Lg (i + 1) = ((inL ((i : Nat) : Int) ((w : Nat) : Int) (clI (v 5) (v 8) E Lg i).2.2 (clI (v 5) (v 8) E Lg i).1 (clI (v 5) (v 8) E Lg i).2.1).1, (inL ((i : Nat) : Int) ((w : Nat) : Int) (clI (v 5) (v 8) E Lg i).2.2 (clI (v 5) (v 8) E Lg i).1 (clI (v 5) (v 8) E Lg i).2.1).2, (clI (v 5) (v 8) E Lg i).2.2 + 1) := by rw [← hw]; exact if_pos (by omega)
        refine M_aload_n (pc := 35) C dX5_collect_35 rfl (by decide) ?_
        refine M_iload_n (pc := 36) C dX5_collect_36 rfl ?_
        refine M_iload_n (pc := 37) C dX5_collect_37 rfl ?_
        refine A_cVv (pc := 38) C (a := 71) (c := 5) (c_X5_insert_71 hT (v := v) (E := (clI (v 5) (v 8) E Lg i).1) (Lg := (clI (v 5) (v 8) E Lg i).2.1) (X := rs X 2 (((clI (v 5) (v 8) E Lg i).2.2 : Nat) : Int)) (f := i) (w := w) (n := (clI (v 5) (v 8) E Lg i).2.2) (rs_eq _ _ _) (by omega) (by omega) (by omega)) yw_X5_insert lk_X5_32 rfl (congrArg Prod.fst (tt_71 hT)) hc_5 rfl dX5_collect_38 rfl (Nat.le_of_ble_eq_true rfl) (by decide) ⟨Nat.le_refl _, Nat.le_refl _⟩ ?_
        refine M.to (v2 := sa (sa (sa v 72 ((clI (v 5) (v 8) E Lg (i + 1)).1)) 73 ((clI (v 5) (v 8) E Lg (i + 1)).2.1)) 71 (rs X 2 (((clI (v 5) (v 8) E Lg (i + 1)).2.2 : Nat) : Int))) ?_ rfl rfl (by rw [hE, rs_rs])
        refine M_iinc (pc := 41) C dX5_collect_41 rfl (by decide) ?_
        refine M_goto (pc := 44) C (tgt := 7) dX5_collect_44 (by decide) ?_
        refine M.drop [true, true, true, false] rfl ?_
        exact M.to (ih (by omega)) rfl rfl (by rw [hE])
theorem c_X5_insert_78 {N : Nat} {T : Ty} {E Lg X : Nat → Int} {f w n : Nat} {v : Ct} (hT : TT T) (hx : X 2 = (n : Int)) (hn : n < 10) (hf : f < 10) (hw : w < 16) : Runs mX5_insert 0 0 0 [vR 78, vI ((f : Nat) : Int), vI ((w : Nat) : Int)] N T (sa (sa (sa v 79 E) 80 Lg) 78 X) none N T (sa (sa (sa v 79 ((inL ((f : Nat) : Int) ((w : Nat) : Int) n E Lg).1)) 80 ((inL ((f : Nat) : Int) ((w : Nat) : Int) n E Lg).2)) 78 (rs X 2 ((n + 1 : Nat) : Int))) := by
  refine Runs.of (by decide) (Nat.le_of_ble_eq_true rfl) fun κ C => ?_
  refine M_aload_n (pc := 0) C dX5_insert_0 rfl (by decide) ?_
  refine A_getI (pc := 1) C fl_X5_18 rfl (a := 78) rfl (tt_78 hT) dX5_insert_1 (fun (r_1 : i32 (X 2)) => ?_)
  refine M.to (pc := 4) (st2 := [vI (X 2)]) ?_ rfl rfl rfl
  refine M_if_lt (pc := 4) C (tgt := 16) (by omega) dX5_insert_4 (by decide) (fun h_4 => ?_) (fun h_4 => ?_)
  · exfalso
    omega
  · refine M_aload_n (pc := 7) C dX5_insert_7 rfl (by decide) ?_
    refine A_getI (pc := 8) C fl_X5_18 rfl (a := 78) rfl (tt_78 hT) dX5_insert_8 (fun (r_8 : i32 (X 2)) => ?_)
    refine M.to (pc := 11) (st2 := [vI (X 2)]) ?_ rfl rfl rfl
    refine M_bipush (pc := 11) C (by decide) dX5_insert_11 ?_
    refine M_icmp_lt (pc := 13) C (tgt := 17) (by omega) (by omega) dX5_insert_13 (by decide) (fun h_13 => ?_) (fun h_13 => ?_)
    · refine M_aload_n (pc := 17) C dX5_insert_17 rfl (by decide) ?_
      refine A_getI (pc := 18) C fl_X5_18 rfl (a := 78) rfl (tt_78 hT) dX5_insert_18 (fun (r_18 : i32 (X 2)) => ?_)
      refine M.to (pc := 21) (st2 := [vI (X 2)]) ?_ rfl rfl rfl
      refine M.to (st2 := [vI ((n : Nat) : Int)]) ?_ rfl (by rw [hx]) rfl
      refine M_istore_n (pc := 21) C dX5_insert_21 (by decide) ?_
      refine loop_ms (S := Nat × ((Nat → Int) × (Nat → Int))) (P := fun S => (S.1 < 10 ∧ inL ((f : Nat) : Int) ((w : Nat) : Int) S.1 S.2.1 S.2.2 = inL ((f : Nat) : Int) ((w : Nat) : Int) n E Lg) → M κ N T 22 [some (vR 78), some (vI ((f : Nat) : Int)), some (vI ((w : Nat) : Int)), some (vI ((S.1 : Nat) : Int))] [] (sa (sa (sa v 79 S.2.1) 80 S.2.2) 78 X) 0 0 (QR κ none N T (sa (sa (sa v 79 ((inL ((f : Nat) : Int) ((w : Nat) : Int) n E Lg).1)) 80 ((inL ((f : Nat) : Int) ((w : Nat) : Int) n E Lg).2)) 78 (rs X 2 ((n + 1 : Nat) : Int))) 0 0)) (fun S => S.1) (fun S ih => ?_) (n, E, Lg) ⟨hn, rfl⟩
      intro hin
      refine M_iload_n (pc := 22) C dX5_insert_22 rfl ?_
      refine M_if_le (pc := 23) C (tgt := 72) (by omega) dX5_insert_23 (by decide) (fun h_23 => ?_) (fun h_23 => ?_)
      · have hE := (inL_0 (x := ((f : Nat) : Int)) (len := ((w : Nat) : Int)) (E := S.2.1) (Lg := S.2.2) (show S.1 = 0 by omega)).symm.trans hin.2
        refine M_aload_n (pc := 72) C dX5_insert_72 rfl (by decide) ?_
        refine A_getR (pc := 73) C fl_X5_9 rfl (a := 78) (j := 79) rfl (tt_78 hT) rfl dX5_insert_73 ?_
        refine M_iload_n (pc := 76) C dX5_insert_76 rfl ?_
        refine M_iload_n (pc := 77) C dX5_insert_77 rfl ?_
        refine A_iast (pc := 78) C (a := 79) (q := S.1) rfl (tt_79 hT) (by decide) (by omega) (by omega) (by omega) dX5_insert_78 ?_
        refine M.to (pc := 79) (v2 := sa (sa (sa v 79 (rs S.2.1 S.1 ((f : Nat) : Int))) 80 S.2.2) 78 X) ?_ rfl rfl (by rw [sa_up1 (by decide), sa_up1 (by decide), sa_up0])
        refine M_aload_n (pc := 79) C dX5_insert_79 rfl (by decide) ?_
        refine A_getR (pc := 80) C fl_X5_15 rfl (a := 78) (j := 80) rfl (tt_78 hT) rfl dX5_insert_80 ?_
        refine M_iload_n (pc := 83) C dX5_insert_83 rfl ?_
        refine M_iload_n (pc := 84) C dX5_insert_84 rfl ?_
        refine A_iast (pc := 85) C (a := 80) (q := S.1) rfl (tt_80 hT) (by decide) (by omega) (by omega) (by omega) dX5_insert_85 ?_
        refine M.to (pc := 86) (v2 := sa (sa (sa v 79 (rs S.2.1 S.1 ((f : Nat) : Int))) 80 (rs S.2.2 S.1 ((w : Nat) : Int))) 78 X) ?_ rfl rfl (by rw [sa_up1 (by decide), sa_up0])
        refine M_aload_n (pc := 86) C dX5_insert_86 rfl (by decide) ?_
        refine M_dup (pc := 87) C rfl dX5_insert_87 ?_
        refine A_getI (pc := 88) C fl_X5_18 rfl (a := 78) rfl (tt_78 hT) dX5_insert_88 (fun (r_88 : i32 (X 2)) => ?_)
        refine M.to (pc := 91) (st2 := [vI (X 2), vR 78]) ?_ rfl rfl rfl
        refine M_iconst (pc := 91) C dX5_insert_91 ?_
        refine M_iadd (pc := 92) C dX5_insert_92 ?_
        refine A_putI (pc := 93) C fl_X5_18 rfl (by decide) (a := 78) rfl (tt_78 hT) (by omega) dX5_insert_93 ?_
        refine M.to (pc := 96) (v2 := sa (sa (sa v 79 (rs S.2.1 S.1 ((f : Nat) : Int))) 80 (rs S.2.2 S.1 ((w : Nat) : Int))) 78 (rs X 2 ((X 2) + 1))) ?_ rfl rfl (by rw [sa_up0])
        exact M_vret (pc := 96) C rfl dX5_insert_96 (by rw [← hE, hx]; rfl) rfl
      · refine M_aload_n (pc := 26) C dX5_insert_26 rfl (by decide) ?_
        refine A_getR (pc := 27) C fl_X5_15 rfl (a := 78) (j := 80) rfl (tt_78 hT) rfl dX5_insert_27 ?_
        refine M_iload_n (pc := 30) C dX5_insert_30 rfl ?_
        refine M_iconst (pc := 31) C dX5_insert_31 ?_
        refine M_isub (pc := 32) C dX5_insert_32 ?_
        refine A_iald (pc := 33) C (a := 80) (q := (S.1 - 1)) rfl (tt_80 hT) (by decide) (by omega) (by omega) dX5_insert_33 (fun (r_33 : i32 (S.2.2 (S.1 - 1))) => ?_)
        refine M.to (pc := 34) (st2 := [vI (S.2.2 (S.1 - 1))]) ?_ rfl rfl rfl
        refine M_iload_n (pc := 34) C dX5_insert_34 rfl ?_
        refine M_icmp_ge (pc := 35) C (tgt := 72) (by omega) (by omega) dX5_insert_35 (by decide) (fun h_35 => ?_) (fun h_35 => ?_)
        · have hE := (inL_stop (x := ((f : Nat) : Int)) (len := ((w : Nat) : Int)) (E := S.2.1) (Lg := S.2.2) (show 0 < S.1 by omega) h_35).symm.trans hin.2
          refine M_aload_n (pc := 72) C dX5_insert_72 rfl (by decide) ?_
          refine A_getR (pc := 73) C fl_X5_9 rfl (a := 78) (j := 79) rfl (tt_78 hT) rfl dX5_insert_73 ?_
          refine M_iload_n (pc := 76) C dX5_insert_76 rfl ?_
          refine M_iload_n (pc := 77) C dX5_insert_77 rfl ?_
          refine A_iast (pc := 78) C (a := 79) (q := S.1) rfl (tt_79 hT) (by decide) (by omega) (by omega) (by omega) dX5_insert_78 ?_
          refine M.to (pc := 79) (v2 := sa (sa (sa v 79 (rs S.2.1 S.1 ((f : Nat) : Int))) 80 S.2.2) 78 X) ?_ rfl rfl (by rw [sa_up1 (by decide), sa_up1 (by decide), sa_up0])
          refine M_aload_n (pc := 79) C dX5_insert_79 rfl (by decide) ?_
          refine A_getR (pc := 80) C fl_X5_15 rfl (a := 78) (j := 80) rfl (tt_78 hT) rfl dX5_insert_80 ?_
          refine M_iload_n (pc := 83) C dX5_insert_83 rfl ?_
          refine M_iload_n (pc := 84) C dX5_insert_84 rfl ?_
          refine A_iast (pc := 85) C (a := 80) (q := S.1) rfl (tt_80 hT) (by decide) (by omega) (by omega) (by omega) dX5_insert_85 ?_
          refine M.to (pc := 86) (v2 := sa (sa (sa v 79 (rs S.2.1 S.1 ((f : Nat) : Int))) 80 (rs S.2.2 S.1 ((w : Nat) : Int))) 78 X) ?_ rfl rfl (by rw [sa_up1 (by decide), sa_up0])
          refine M_aload_n (pc := 86) C dX5_insert_86 rfl (by decide) ?_
          refine M_dup (pc := 87) C rfl dX5_insert_87 ?_
          refine A_getI (pc := 88) C fl_X5_18 rfl (a := 78) rfl (tt_78 hT) dX5_insert_88 (fun (r_88 : i32 (X 2)) => ?_)
          refine M.to (pc := 91) (st2 := [vI (X 2), vR 78]) ?_ rfl rfl rfl
          refine M_iconst (pc := 91) C dX5_insert_91 ?_
          refine M_iadd (pc := 92) C dX5_insert_92 ?_
          refine A_putI (pc := 93) C fl_X5_18 rfl (by decide) (a := 78) rfl (tt_78 hT) (by omega) dX5_insert_93 ?_
          refine M.to (pc := 96) (v2 := sa (sa (sa v 79 (rs S.2.1 S.1 ((f : Nat) : Int))) 80 (rs S.2.2 S.1 ((w : Nat) : Int))) 78 (rs X 2 ((X 2) + 1))) ?_ rfl rfl (by rw [sa_up0])
          exact M_vret (pc := 96) C rfl dX5_insert_96 (by rw [← hE, hx]; rfl) rfl
        · refine M_aload_n (pc := 38) C dX5_insert_38 rfl (by decide) ?_
          refine A_getR (pc := 39) C fl_X5_9 rfl (a := 78) (j := 79) rfl (tt_78 hT) rfl dX5_insert_39 ?_
          refine M_iload_n (pc := 42) C dX5_insert_42 rfl ?_
          refine M_aload_n (pc := 43) C dX5_insert_43 rfl (by decide) ?_
          refine A_getR (pc := 44) C fl_X5_9 rfl (a := 78) (j := 79) rfl (tt_78 hT) rfl dX5_insert_44 ?_
          refine M_iload_n (pc := 47) C dX5_insert_47 rfl ?_
          refine M_iconst (pc := 48) C dX5_insert_48 ?_
          refine M_isub (pc := 49) C dX5_insert_49 ?_
          refine A_iald (pc := 50) C (a := 79) (q := (S.1 - 1)) rfl (tt_79 hT) (by decide) (by omega) (by omega) dX5_insert_50 (fun (r_50 : i32 (S.2.1 (S.1 - 1))) => ?_)
          refine M.to (pc := 51) (st2 := [vI (S.2.1 (S.1 - 1)), vI ((S.1 : Nat) : Int), vR 79]) ?_ rfl rfl rfl
          refine A_iast (pc := 51) C (a := 79) (q := S.1) rfl (tt_79 hT) (by decide) (by omega) (by omega) (by omega) dX5_insert_51 ?_
          refine M.to (pc := 52) (v2 := sa (sa (sa v 79 (rs S.2.1 S.1 (S.2.1 (S.1 - 1)))) 80 S.2.2) 78 X) ?_ rfl rfl (by rw [sa_up1 (by decide), sa_up1 (by decide), sa_up0])
          refine M_aload_n (pc := 52) C dX5_insert_52 rfl (by decide) ?_
          refine A_getR (pc := 53) C fl_X5_15 rfl (a := 78) (j := 80) rfl (tt_78 hT) rfl dX5_insert_53 ?_
          refine M_iload_n (pc := 56) C dX5_insert_56 rfl ?_
          refine M_aload_n (pc := 57) C dX5_insert_57 rfl (by decide) ?_
          refine A_getR (pc := 58) C fl_X5_15 rfl (a := 78) (j := 80) rfl (tt_78 hT) rfl dX5_insert_58 ?_
          refine M_iload_n (pc := 61) C dX5_insert_61 rfl ?_
          refine M_iconst (pc := 62) C dX5_insert_62 ?_
          refine M_isub (pc := 63) C dX5_insert_63 ?_
          refine A_iald (pc := 64) C (a := 80) (q := (S.1 - 1)) rfl (tt_80 hT) (by decide) (by omega) (by omega) dX5_insert_64 (fun (r_64 : i32 (S.2.2 (S.1 - 1))) => ?_)
          refine M.to (pc := 65) (st2 := [vI (S.2.2 (S.1 - 1)), vI ((S.1 : Nat) : Int), vR 80]) ?_ rfl rfl rfl
          refine A_iast (pc := 65) C (a := 80) (q := S.1) rfl (tt_80 hT) (by decide) (by omega) (by omega) (by omega) dX5_insert_65 ?_
          refine M.to (pc := 66) (v2 := sa (sa (sa v 79 (rs S.2.1 S.1 (S.2.1 (S.1 - 1)))) 80 (rs S.2.2 S.1 (S.2.2 (S.1 - 1)))) 78 X) ?_ rfl rfl (by rw [sa_up1 (by decide), sa_up0])
          refine M_iinc (pc := 66) C dX5_insert_66 rfl (by decide) ?_
          refine M.to (L2 := [some (vR 78), some (vI ((f : Nat) : Int)), some (vI ((w : Nat) : Int)), some (vI ((S.1 - 1 : Nat) : Int))]) ?_ (by show [some (vR 78), some (vI ((f : Nat) : Int)), some (vI ((w : Nat) : Int)), some (vI (((S.1 : Nat) : Int) + (-1)))] = _; rw [show ((S.1 : Nat) : Int) + (-1) = ((S.1 - 1 : Nat) : Int) by omega]) rfl rfl
          refine M_goto (pc := 69) C (tgt := 22) dX5_insert_69 (by decide) ?_
          exact M.to (ih (S.1 - 1, rs S.2.1 S.1 (S.2.1 (S.1 - 1)), rs S.2.2 S.1 (S.2.2 (S.1 - 1))) (by show S.1 - 1 < S.1; omega) ⟨by show S.1 - 1 < 10; omega, (inL_go (by omega) h_35).symm.trans hin.2⟩) rfl rfl rfl
    · exfalso
      omega
theorem c_X5_collect_78 {N : Nat} {T : Ty} {E Lg X : Nat → Int} {v : Ct} (hT : TT T) (hD : DI (v 5) (v 6) (v 7) (v 8)) : Runs mX5_collect 3 0 0 [vR 78, vR 1] N T (sa (sa (sa v 79 E) 80 Lg) 78 X) none N T (sa (sa (sa v 79 ((clI (v 5) (v 8) E Lg 10).1)) 80 ((clI (v 5) (v 8) E Lg 10).2.1)) 78 (rs X 2 (((clI (v 5) (v 8) E Lg 10).2.2 : Nat) : Int))) := by
  refine Runs.of (by decide) (Nat.le_of_ble_eq_true rfl) fun κ C => ?_
  refine M_aload_n (pc := 0) C dX5_collect_0 rfl (by decide) ?_
  refine M_iconst (pc := 1) C dX5_collect_1 ?_
  refine A_putI (pc := 2) C fl_X5_18 rfl (by decide) (a := 78) rfl (tt_78 hT) (by omega) dX5_collect_2 ?_
  refine M.to (pc := 5) (v2 := sa (sa (sa v 79 E) 80 Lg) 78 (rs X 2 0)) ?_ rfl rfl (by rw [sa_up0])
  refine M_iconst (pc := 5) C dX5_collect_5 ?_
  refine M_istore_n (pc := 6) C dX5_collect_6 (by decide) ?_
  refine loop_le (P := fun i => M κ N T 7 [some (vR 78), some (vR 1), some (vI ((i : Nat) : Int)), none] [] (sa (sa (sa v 79 ((clI (v 5) (v 8) E Lg i).1)) 80 ((clI (v 5) (v 8) E Lg i).2.1)) 78 (rs X 2 (((clI (v 5) (v 8) E Lg i).2.2 : Nat) : Int))) 0 0 (QR κ none N T (sa (sa (sa v 79 ((clI (v 5) (v 8) E Lg 10).1)) 80 ((clI (v 5) (v 8) E Lg 10).2.1)) 78 (rs X 2 (((clI (v 5) (v 8) E Lg 10).2.2 : Nat) : Int))) 0 0)) 10 (fun i hi ih => ?_)
  have hcl := clI_bd (v 5) (v 8) E Lg i
  refine M_iload_n (pc := 7) C dX5_collect_7 rfl ?_
  refine M_bipush (pc := 8) C (by decide) dX5_collect_8 ?_
  refine M_icmp_ge (pc := 10) C (tgt := 47) (by omega) (by omega) dX5_collect_10 (by decide) (fun h_10 => ?_) (fun h_10 => ?_)
  · have hi10 : i = 10 := by omega
    exact M_vret (pc := 47) C rfl dX5_collect_47 (by rw [hi10]) rfl
  · have hct := clT_bd hD (f := i) (by omega)
    refine M_aload_n (pc := 13) C dX5_collect_13 rfl (by decide) ?_
    refine M_iload_n (pc := 14) C dX5_collect_14 rfl ?_
    refine A_cV (pc := 15) C (x := vI (Bi (decide (v 5 i ≠ -1) && decide (v 8 i = 1)))) (a := 1) (c := 0) (c_X0_isBroken hT (f := i) (by omega)) yw_X0_isBroken lk_X5_22 rfl (congrArg Prod.fst (tt_1 hT)) hc_0 rfl dX5_collect_15 rfl (Nat.le_of_ble_eq_true rfl) (by decide) ⟨Nat.le_refl _, Nat.le_refl _⟩ ?_
    refine M_if_eq (pc := 18) C (tgt := 25) (Bi_i32 _) dX5_collect_18 (by decide) (fun h_18 => ?_) (fun h_18 => ?_)
    · have b_18 := Bi_eq0 h_18
      have hc0 : clT (v 5) (v 8) i = (if v 5 i = -1 then 0 else v 5 i) % 16 := if_neg (fun q => by rw [decide_eq_true q.1, decide_eq_true q.2] at b_18; exact absurd b_18 (by decide))
      refine M_aload_n (pc := 25) C dX5_collect_25 rfl (by decide) ?_
      refine M_iload_n (pc := 26) C dX5_collect_26 rfl ?_
      refine A_cV (pc := 27) C (x := vI ((if v 5 i = -1 then 0 else v 5 i) % 16)) (a := 1) (c := 0) (c_X0_tailCells hT hD (f := i) (by omega)) yw_X0_tailCells lk_X5_28 rfl (congrArg Prod.fst (tt_1 hT)) hc_0 rfl dX5_collect_27 rfl (Nat.le_of_ble_eq_true rfl) (by decide) ⟨Nat.le_refl _, Nat.le_refl _⟩ ?_
      obtain ⟨w, hw⟩ : ∃ w : Nat, clT (v 5) (v 8) i = (w : Int) := ⟨(clT (v 5) (v 8) i).toNat, by omega⟩
      refine M.to (st2 := [vI ((w : Nat) : Int)]) ?_ rfl (by rw [← hw, hc0]) rfl
      refine M_istore_n (pc := 30) C dX5_collect_30 (by decide) ?_
      refine M_iload_n (pc := 31) C dX5_collect_31 rfl ?_
      refine M_if_le (pc := 32) C (tgt := 41) (by omega) dX5_collect_32 (by decide) (fun h_32 => ?_) (fun h_32 => ?_)
      · have hE : clI (v 5) (v 8) E Lg (i + 1) = clI (v 5) (v 8) E Lg i := if_neg (by omega)
        refine M_iinc (pc := 41) C dX5_collect_41 rfl (by decide) ?_
        refine M_goto (pc := 44) C (tgt := 7) dX5_collect_44 (by decide) ?_
        refine M.drop [true, true, true, false] rfl ?_
        exact M.to (ih (by omega)) rfl rfl (by rw [hE])
      · have hE : clI (v 5) (v 8) E Lg (i + 1) = ((inL ((i : Nat) : Int) ((w : Nat) : Int) (clI (v 5) (v 8) E Lg i).2.2 (clI (v 5) (v 8) E Lg i).1 (clI (v 5) (v 8) E Lg i).2.1).1, (inL ((i : Nat) : Int) ((w : Nat) : Int) (clI (v 5) (v 8) E Lg i).2.2 (clI (v 5) (v 8) E Lg i).1 (clI (v 5) (v 8) E Lg i).2.1).2, (clI (v 5) (v 8) E Lg i).2.2 + 1) := by rw [← hw]; exact if_pos (by omega)
        refine M_aload_n (pc := 35) C dX5_collect_35 rfl (by decide) ?_
        refine M_iload_n (pc := 36) C dX5_collect_36 rfl ?_
        refine M_iload_n (pc := 37) C dX5_collect_37 rfl ?_
        refine A_cVv (pc := 38) C (a := 78) (c := 5) (c_X5_insert_78 hT (v := v) (E := (clI (v 5) (v 8) E Lg i).1) (Lg := (clI (v 5) (v 8) E Lg i).2.1) (X := rs X 2 (((clI (v 5) (v 8) E Lg i).2.2 : Nat) : Int)) (f := i) (w := w) (n := (clI (v 5) (v 8) E Lg i).2.2) (rs_eq _ _ _) (by omega) (by omega) (by omega)) yw_X5_insert lk_X5_32 rfl (congrArg Prod.fst (tt_78 hT)) hc_5 rfl dX5_collect_38 rfl (Nat.le_of_ble_eq_true rfl) (by decide) ⟨Nat.le_refl _, Nat.le_refl _⟩ ?_
        refine M.to (v2 := sa (sa (sa v 79 ((clI (v 5) (v 8) E Lg (i + 1)).1)) 80 ((clI (v 5) (v 8) E Lg (i + 1)).2.1)) 78 (rs X 2 (((clI (v 5) (v 8) E Lg (i + 1)).2.2 : Nat) : Int))) ?_ rfl rfl (by rw [hE, rs_rs])
        refine M_iinc (pc := 41) C dX5_collect_41 rfl (by decide) ?_
        refine M_goto (pc := 44) C (tgt := 7) dX5_collect_44 (by decide) ?_
        refine M.drop [true, true, true, false] rfl ?_
        exact M.to (ih (by omega)) rfl rfl (by rw [hE])
    · have b_18 := Bi_ne0 h_18
      have hc0 : clT (v 5) (v 8) i = 0 := if_pos (by rw [Bool.and_eq_true] at b_18; exact ⟨of_decide_eq_true b_18.1, of_decide_eq_true b_18.2⟩)
      refine M_iconst (pc := 21) C dX5_collect_21 ?_
      refine M_goto (pc := 22) C (tgt := 30) dX5_collect_22 (by decide) ?_
      obtain ⟨w, hw⟩ : ∃ w : Nat, clT (v 5) (v 8) i = (w : Int) := ⟨(clT (v 5) (v 8) i).toNat, by omega⟩
      refine M.to (st2 := [vI ((w : Nat) : Int)]) ?_ rfl (by rw [← hw, hc0]) rfl
      refine M_istore_n (pc := 30) C dX5_collect_30 (by decide) ?_
      refine M_iload_n (pc := 31) C dX5_collect_31 rfl ?_
      refine M_if_le (pc := 32) C (tgt := 41) (by omega) dX5_collect_32 (by decide) (fun h_32 => ?_) (fun h_32 => ?_)
      · have hE : clI (v 5) (v 8) E Lg (i + 1) = clI (v 5) (v 8) E Lg i := if_neg (by omega)
        refine M_iinc (pc := 41) C dX5_collect_41 rfl (by decide) ?_
        refine M_goto (pc := 44) C (tgt := 7) dX5_collect_44 (by decide) ?_
        refine M.drop [true, true, true, false] rfl ?_
        exact M.to (ih (by omega)) rfl rfl (by rw [hE])
      · have hE : clI (v 5) (v 8) E Lg (i + 1) = ((inL ((i : Nat) : Int) ((w : Nat) : Int) (clI (v 5) (v 8) E Lg i).2.2 (clI (v 5) (v 8) E Lg i).1 (clI (v 5) (v 8) E Lg i).2.1).1, (inL ((i : Nat) : Int) ((w : Nat) : Int) (clI (v 5) (v 8) E Lg i).2.2 (clI (v 5) (v 8) E Lg i).1 (clI (v 5) (v 8) E Lg i).2.1).2, (clI (v 5) (v 8) E Lg i).2.2 + 1) := by rw [← hw]; exact if_pos (by omega)
        refine M_aload_n (pc := 35) C dX5_collect_35 rfl (by decide) ?_
        refine M_iload_n (pc := 36) C dX5_collect_36 rfl ?_
        refine M_iload_n (pc := 37) C dX5_collect_37 rfl ?_
        refine A_cVv (pc := 38) C (a := 78) (c := 5) (c_X5_insert_78 hT (v := v) (E := (clI (v 5) (v 8) E Lg i).1) (Lg := (clI (v 5) (v 8) E Lg i).2.1) (X := rs X 2 (((clI (v 5) (v 8) E Lg i).2.2 : Nat) : Int)) (f := i) (w := w) (n := (clI (v 5) (v 8) E Lg i).2.2) (rs_eq _ _ _) (by omega) (by omega) (by omega)) yw_X5_insert lk_X5_32 rfl (congrArg Prod.fst (tt_78 hT)) hc_5 rfl dX5_collect_38 rfl (Nat.le_of_ble_eq_true rfl) (by decide) ⟨Nat.le_refl _, Nat.le_refl _⟩ ?_
        refine M.to (v2 := sa (sa (sa v 79 ((clI (v 5) (v 8) E Lg (i + 1)).1)) 80 ((clI (v 5) (v 8) E Lg (i + 1)).2.1)) 78 (rs X 2 (((clI (v 5) (v 8) E Lg (i + 1)).2.2 : Nat) : Int))) ?_ rfl rfl (by rw [hE, rs_rs])
        refine M_iinc (pc := 41) C dX5_collect_41 rfl (by decide) ?_
        refine M_goto (pc := 44) C (tgt := 7) dX5_collect_44 (by decide) ?_
        refine M.drop [true, true, true, false] rfl ?_
        exact M.to (ih (by omega)) rfl rfl (by rw [hE])
