theorem c_X1_bySets {N : Nat} {T : Ty} {SB SL E Lg X : Nat → Int} {n : Nat} {v : Ct} (hT : TT T) (hD : DI (v 5) (v 6) (v 7) (v 8)) (hn : (clI (v 5) (v 8) E Lg 10).2.2 = n) (hL : ∀ q, q < (clI (v 5) (v 8) E Lg 10).2.2 → 0 ≤ ((clI (v 5) (v 8) E Lg 10).2.1) q ∧ ((clI (v 5) (v 8) E Lg 10).2.1) q < 16) : Runs mX1_bySets 4 0 0 [vR 77, vR 1] N T (sa (sa (sa (sa (sa v 82 SB) 83 SL) 79 E) 80 Lg) 78 X) (some (vI ((bsI ((clI (v 5) (v 8) E Lg 10).2.1) SB SL (2 ^ n - 1)).1 (2 ^ n - 1)))) N T (sa (sa (sa (sa (sa v 79 ((clI (v 5) (v 8) E Lg 10).1)) 80 ((clI (v 5) (v 8) E Lg 10).2.1)) 78 (rs X 2 (((clI (v 5) (v 8) E Lg 10).2.2 : Nat) : Int))) 82 ((bsI ((clI (v 5) (v 8) E Lg 10).2.1) SB SL (2 ^ n - 1)).1)) 83 ((bsI ((clI (v 5) (v 8) E Lg 10).2.1) SB SL (2 ^ n - 1)).2)) := by
  have hn10 := clI_bd (v 5) (v 8) E Lg 10
  rw [hn] at hn10
  have hpw := pow_le hn10
  have hLn : ∀ q, q < n → 0 ≤ ((clI (v 5) (v 8) E Lg 10).2.1) q ∧ ((clI (v 5) (v 8) E Lg 10).2.1) q < 16 := fun q hq => hL q (by rw [hn]; exact hq)
  refine Runs.of (by decide) (Nat.le_of_ble_eq_true rfl) fun κ C => ?_
  refine M_aload_n (pc := 0) C dX1_bySets_0 rfl (by decide) ?_
  refine A_getR (pc := 1) C fl_X1_12 rfl (a := 77) (j := 78) rfl (tt_77 hT) rfl dX1_bySets_1 ?_
  refine M_aload_n (pc := 4) C dX1_bySets_4 rfl (by decide) ?_
  refine A_cVv (pc := 5) C (a := 78) (c := 5) (c_X5_collect_78 hT (v := sa (sa v 82 SB) 83 SL) (E := E) (Lg := Lg) (X := X) hD) yw_X5_collect lk_X1_28 rfl (congrArg Prod.fst (tt_78 hT)) hc_5 rfl dX1_bySets_5 rfl (Nat.le_of_ble_eq_true rfl) (by decide) ⟨Nat.le_refl _, Nat.le_refl _⟩ ?_
  refine M.to (v2 := sa (sa (sa (sa (sa v 79 ((clI (v 5) (v 8) E Lg 10).1)) 80 ((clI (v 5) (v 8) E Lg 10).2.1)) 78 (rs X 2 (((clI (v 5) (v 8) E Lg 10).2.2 : Nat) : Int))) 82 SB) 83 SL) ?_ rfl rfl (by rw [sa_sa1 (a := 83) (b := 79) (by decide), sa_sa1 (a := 82) (b := 79) (by decide), sa_sa1 (a := 83) (b := 80) (by decide), sa_sa1 (a := 82) (b := 80) (by decide), sa_sa1 (a := 83) (b := 78) (by decide), sa_sa1 (a := 82) (b := 78) (by decide)] <;> rfl)
  refine M_aload_n (pc := 8) C dX1_bySets_8 rfl (by decide) ?_
  refine A_getR (pc := 9) C fl_X1_22 rfl (a := 77) (j := 82) rfl (tt_77 hT) rfl dX1_bySets_9 ?_
  refine M_iconst (pc := 12) C dX1_bySets_12 ?_
  refine M_iconst (pc := 13) C dX1_bySets_13 ?_
  refine A_iast (pc := 14) C (a := 82) (q := 0) rfl (tt_82 hT) (by decide) rfl (by omega) (by omega) dX1_bySets_14 ?_
  refine M.to (pc := 15) (v2 := sa (sa (sa (sa (sa v 79 ((clI (v 5) (v 8) E Lg 10).1)) 80 ((clI (v 5) (v 8) E Lg 10).2.1)) 78 (rs X 2 (((clI (v 5) (v 8) E Lg 10).2.2 : Nat) : Int))) 82 (rs SB 0 0)) 83 SL) ?_ rfl rfl (by rw [sa_up1 (by decide), sa_up0])
  refine M_aload_n (pc := 15) C dX1_bySets_15 rfl (by decide) ?_
  refine A_getR (pc := 16) C fl_X1_25 rfl (a := 77) (j := 83) rfl (tt_77 hT) rfl dX1_bySets_16 ?_
  refine M_iconst (pc := 19) C dX1_bySets_19 ?_
  refine M_bipush (pc := 20) C (by decide) dX1_bySets_20 ?_
  refine A_iast (pc := 22) C (a := 83) (q := 0) rfl (tt_83 hT) (by decide) rfl (by omega) (by omega) dX1_bySets_22 ?_
  refine M.to (pc := 23) (v2 := sa (sa (sa (sa (sa v 79 ((clI (v 5) (v 8) E Lg 10).1)) 80 ((clI (v 5) (v 8) E Lg 10).2.1)) 78 (rs X 2 (((clI (v 5) (v 8) E Lg 10).2.2 : Nat) : Int))) 82 (rs SB 0 0)) 83 (rs SL 0 16)) ?_ rfl rfl (by rw [sa_up0])
  refine M_iconst (pc := 23) C dX1_bySets_23 ?_
  refine M_aload_n (pc := 24) C dX1_bySets_24 rfl (by decide) ?_
  refine A_getR (pc := 25) C fl_X1_12 rfl (a := 77) (j := 78) rfl (tt_77 hT) rfl dX1_bySets_25 ?_
  refine A_getI (pc := 28) C fl_X1_32 rfl (a := 78) rfl (tt_78 hT) dX1_bySets_28 (fun (r_28 : i32 ((rs X 2 (((clI (v 5) (v 8) E Lg 10).2.2 : Nat) : Int)) 2)) => ?_)
  refine M.to (pc := 31) (st2 := [vI ((rs X 2 (((clI (v 5) (v 8) E Lg 10).2.2 : Nat) : Int)) 2), vI 1]) ?_ rfl rfl rfl
  refine M.to (st2 := [vI ((n : Nat) : Int), vI 1]) ?_ rfl (by rw [rs_eq, hn]) rfl
  refine M_ishl (pc := 31) C (by omega) dX1_bySets_31 ?_
  refine M_iconst (pc := 32) C dX1_bySets_32 ?_
  refine M_isub (pc := 33) C dX1_bySets_33 ?_
  refine M.to (st2 := [vI ((2 ^ n - 1 : Nat) : Int)]) ?_ rfl (by rw [Int.one_mul, Int.toNat_natCast, show (2 : Int) ^ n - 1 = ((2 ^ n - 1 : Nat) : Int) by rw [show ((2 : Int) ^ n) = ((2 ^ n : Nat) : Int) by push_cast; rfl]; omega]) rfl
  refine M_istore_n (pc := 34) C dX1_bySets_34 (by decide) ?_
  refine M_iconst (pc := 35) C dX1_bySets_35 ?_
  refine M_istore_n (pc := 36) C dX1_bySets_36 (by decide) ?_
  refine loop_le (P := fun i => M κ N T 37 [some (vR 77), some (vR 1), some (vI ((2 ^ n - 1 : Nat) : Int)), some (vI ((i + 1 : Nat) : Int))] [] (sa (sa (sa (sa (sa v 79 ((clI (v 5) (v 8) E Lg 10).1)) 80 ((clI (v 5) (v 8) E Lg 10).2.1)) 78 (rs X 2 (((clI (v 5) (v 8) E Lg 10).2.2 : Nat) : Int))) 82 ((bsI ((clI (v 5) (v 8) E Lg 10).2.1) SB SL i).1)) 83 ((bsI ((clI (v 5) (v 8) E Lg 10).2.1) SB SL i).2)) 0 0 (QR κ (some (vI ((bsI ((clI (v 5) (v 8) E Lg 10).2.1) SB SL (2 ^ n - 1)).1 (2 ^ n - 1)))) N T (sa (sa (sa (sa (sa v 79 ((clI (v 5) (v 8) E Lg 10).1)) 80 ((clI (v 5) (v 8) E Lg 10).2.1)) 78 (rs X 2 (((clI (v 5) (v 8) E Lg 10).2.2 : Nat) : Int))) 82 ((bsI ((clI (v 5) (v 8) E Lg 10).2.1) SB SL (2 ^ n - 1)).1)) 83 ((bsI ((clI (v 5) (v 8) E Lg 10).2.1) SB SL (2 ^ n - 1)).2)) 0 0)) (2 ^ n - 1) (fun i hi ih => ?_)
  have hbb := bsI_bd (SB := SB) (SL := SL) hn10 hLn i (by omega)
  refine M_iload_n (pc := 37) C dX1_bySets_37 rfl ?_
  refine M_iload_n (pc := 38) C dX1_bySets_38 rfl ?_
  refine M_icmp_gt (pc := 39) C (tgt := 60) (by omega) (by omega) dX1_bySets_39 (by decide) (fun h_39 => ?_) (fun h_39 => ?_)
  · have hie : i = 2 ^ n - 1 := by omega
    refine M.to (v2 := sa (sa (sa (sa (sa v 79 ((clI (v 5) (v 8) E Lg 10).1)) 80 ((clI (v 5) (v 8) E Lg 10).2.1)) 78 (rs X 2 (((clI (v 5) (v 8) E Lg 10).2.2 : Nat) : Int))) 82 ((bsI ((clI (v 5) (v 8) E Lg 10).2.1) SB SL (2 ^ n - 1)).1)) 83 ((bsI ((clI (v 5) (v 8) E Lg 10).2.1) SB SL (2 ^ n - 1)).2)) ?_ rfl rfl (by rw [hie])
    refine M_iload_n (pc := 60) C dX1_bySets_60 rfl ?_
    refine M_if_lt (pc := 61) C (tgt := 80) (by omega) dX1_bySets_61 (by decide) (fun h_61 => ?_) (fun h_61 => ?_)
    · exfalso
      omega
    · refine M_iload_n (pc := 64) C dX1_bySets_64 rfl ?_
      refine M_sipush (pc := 65) C (by decide) dX1_bySets_65 ?_
      refine M_icmp_ge (pc := 68) C (tgt := 80) (by omega) (by omega) dX1_bySets_68 (by decide) (fun h_68 => ?_) (fun h_68 => ?_)
      · exfalso
        omega
      · refine M_aload_n (pc := 71) C dX1_bySets_71 rfl (by decide) ?_
        refine A_getR (pc := 72) C fl_X1_22 rfl (a := 77) (j := 82) rfl (tt_77 hT) rfl dX1_bySets_72 ?_
        refine M_iload_n (pc := 75) C dX1_bySets_75 rfl ?_
        refine A_iald (pc := 76) C (a := 82) (q := (2 ^ n - 1)) rfl (tt_82 hT) (by decide) rfl (by omega) dX1_bySets_76 (fun (r_76 : i32 (((bsI ((clI (v 5) (v 8) E Lg 10).2.1) SB SL (2 ^ n - 1)).1) (2 ^ n - 1))) => ?_)
        refine M.to (pc := 77) (st2 := [vI (((bsI ((clI (v 5) (v 8) E Lg 10).2.1) SB SL (2 ^ n - 1)).1) (2 ^ n - 1))]) ?_ rfl rfl rfl
        refine M_goto (pc := 77) C (tgt := 81) dX1_bySets_77 (by decide) ?_
        exact M_iret (pc := 81) C rfl dX1_bySets_81 rfl rfl
  · refine M_iload_n (pc := 42) C dX1_bySets_42 rfl ?_
    refine M_sipush (pc := 43) C (by decide) dX1_bySets_43 ?_
    refine M_icmp_ge (pc := 46) C (tgt := 60) (by omega) (by omega) dX1_bySets_46 (by decide) (fun h_46 => ?_) (fun h_46 => ?_)
    · exfalso
      omega
    · refine M_aload_n (pc := 49) C dX1_bySets_49 rfl (by decide) ?_
      refine M_iload_n (pc := 50) C dX1_bySets_50 rfl ?_
      refine A_cVv (pc := 51) C (a := 77) (c := 1) (c_X1_solveSet hT (v := sa (sa (sa v 79 ((clI (v 5) (v 8) E Lg 10).1)) 80 ((clI (v 5) (v 8) E Lg 10).2.1)) 78 (rs X 2 (((clI (v 5) (v 8) E Lg 10).2.2 : Nat) : Int))) (SB := (bsI ((clI (v 5) (v 8) E Lg 10).2.1) SB SL i).1) (SL := (bsI ((clI (v 5) (v 8) E Lg 10).2.1) SB SL i).2) (s := i + 1) (by omega) (fun q hq => (hbb q (by omega)).1) (fun q hq => (hbb q (by omega)).2) (fun k _ hb => hL k (by rw [hn]; exact bit_lt (show i + 1 < 2 ^ n by omega) hb))) yw_X1_solveSet lk_X1_36 rfl (congrArg Prod.fst (tt_77 hT)) hc_1 rfl dX1_bySets_51 rfl (Nat.le_of_ble_eq_true rfl) (by decide) ⟨Nat.le_refl _, Nat.le_refl _⟩ ?_
      refine M_iinc (pc := 54) C dX1_bySets_54 rfl (by decide) ?_
      refine M_goto (pc := 57) C (tgt := 37) dX1_bySets_57 (by decide) ?_
      exact M.to (ih (by omega)) rfl rfl rfl
