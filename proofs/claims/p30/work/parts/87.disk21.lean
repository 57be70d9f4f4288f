theorem c_X2_store_l {N : Nat} {T : Ty} {s g : Nat} {v : Ct} (hT : TT T) (hs : v 10 1 = (s : Int)) (hs6 : s < 6) (hg : v 11 s = (g : Int)) (hgd : dsk T g) (hg12 : 12 ≤ g) : Runs mX2_store 1 0 0 [vR 10, vR 1] N T v none N T (up (cpd v g 1 24 10 true) 10 1 ((s + 1 : Nat) : Int)) := by
  refine Runs.of (by decide) (Nat.le_of_ble_eq_true rfl) fun κ C => ?_
  refine M_aload_n (pc := 0) C dX2_store_0 rfl (by decide) ?_
  refine A_getI (pc := 1) C fl_X2_17 rfl (a := 10) rfl (tt_10 hT) dX2_store_1 (fun (r_1 : i32 (v 10 1)) => ?_)
  refine M_bipush (pc := 4) C (by decide) dX2_store_4 ?_
  refine M_icmp_lt (pc := 6) C (tgt := 13) (by omega) (by omega) dX2_store_6 (by decide) (fun h_6 => ?_) (fun h_6 => ?_)
  · refine M_aload_n (pc := 13) C dX2_store_13 rfl (by decide) ?_
    refine A_getI (pc := 14) C fl_X2_17 rfl (a := 10) rfl (tt_10 hT) dX2_store_14 (fun (r_14 : i32 (v 10 1)) => ?_)
    refine M_if_lt (pc := 17) C (tgt := 64) (by omega) dX2_store_17 (by decide) (fun h_17 => ?_) (fun h_17 => ?_)
    · exfalso
      omega
    · refine M_aload_n (pc := 20) C dX2_store_20 rfl (by decide) ?_
      refine A_getI (pc := 21) C fl_X2_17 rfl (a := 10) rfl (tt_10 hT) dX2_store_21 (fun (r_21 : i32 (v 10 1)) => ?_)
      refine M_bipush (pc := 24) C (by decide) dX2_store_24 ?_
      refine M_icmp_ge (pc := 26) C (tgt := 64) (by omega) (by omega) dX2_store_26 (by decide) (fun h_26 => ?_) (fun h_26 => ?_)
      · exfalso
        omega
      · refine M_aload_n (pc := 29) C dX2_store_29 rfl (by decide) ?_
        refine A_getR (pc := 30) C fl_X2_11 rfl (a := 10) (j := 11) rfl (tt_10 hT) rfl dX2_store_30 ?_
        refine M_aload_n (pc := 33) C dX2_store_33 rfl (by decide) ?_
        refine A_getI (pc := 34) C fl_X2_17 rfl (a := 10) rfl (tt_10 hT) dX2_store_34 (fun (r_34 : i32 (v 10 1)) => ?_)
        refine M.to (st2 := [vI ((s : Nat) : Int), vR 11]) ?_ rfl (by rw [hs]) rfl
        refine A_aald (pc := 37) C (a := 11) (q := s) rfl (tt_11 hT) (by decide) (by omega) (by omega) dX2_store_37 (fun (r_37 : i32 (v 11 s)) => ?_)
        refine M_ifnull (pc := 38) C (tgt := 64) (by omega) dX2_store_38 (by decide) (fun h_38 => ?_) (fun h_38 => ?_)
        · exfalso
          omega
        · refine M_aload_n (pc := 41) C dX2_store_41 rfl (by decide) ?_
          refine A_getR (pc := 42) C fl_X2_11 rfl (a := 10) (j := 11) rfl (tt_10 hT) rfl dX2_store_42 ?_
          refine M_aload_n (pc := 45) C dX2_store_45 rfl (by decide) ?_
          refine A_getI (pc := 46) C fl_X2_17 rfl (a := 10) rfl (tt_10 hT) dX2_store_46 (fun (r_46 : i32 (v 10 1)) => ?_)
          refine M.to (st2 := [vI ((s : Nat) : Int), vR 11]) ?_ rfl (by rw [hs]) rfl
          refine A_aald (pc := 49) C (a := 11) (q := s) rfl (tt_11 hT) (by decide) (by omega) (by omega) dX2_store_49 (fun (r_49 : i32 (v 11 s)) => ?_)
          refine M.to (st2 := [vR ((g : Nat) : Int)]) ?_ rfl (by rw [hg]) rfl
          refine M_aload_n (pc := 50) C dX2_store_50 rfl (by decide) ?_
          refine A_cVv (pc := 51) C (a := g) (c := 0) (c_X0_copyFrom (v := v) (a := g) (b := 1) hT hgd (dsk_1 hT) (Or.inr (by omega))) yw_X0_copyFrom lk_X2_25 rfl (congrArg Prod.fst hgd.1) hc_0 rfl dX2_store_51 rfl (Nat.le_of_ble_eq_true rfl) (by decide) ⟨Nat.le_refl _, Nat.le_refl _⟩ ?_
          refine M_aload_n (pc := 54) C dX2_store_54 rfl (by decide) ?_
          refine M_dup (pc := 55) C rfl dX2_store_55 ?_
          refine A_getI (pc := 56) C fl_X2_17 rfl (a := 10) rfl (tt_10 hT) dX2_store_56 (fun (r_56 : i32 ((cpd (v) g 1 24 10 true) 10 1)) => ?_)
          refine M_iconst (pc := 59) C dX2_store_59 ?_
          refine M_iadd (pc := 60) C dX2_store_60 ?_
          have e9 : (cpd v g 1 24 10 true) 10 1 = (s : Int) := by rw [cpd_o (by omega)]; exact hs
          rw [e9] at r_56
          refine M.to (st2 := [vI ((s + 1 : Nat) : Int), vR 10]) ?_ rfl (by rw [e9]; rfl) rfl
          refine A_putI (pc := 61) C fl_X2_17 rfl (by decide) (a := 10) rfl (tt_10 hT) (by omega) dX2_store_61 ?_
          exact M_vret (pc := 64) C rfl dX2_store_64 rfl rfl
  · exfalso
    omega
theorem c_X2_store_6 {N : Nat} {T : Ty} {Q G : Nat → Int} {g : Nat} {v : Ct} (hT : TT T) (hQ : ∀ q, q < 6 → ∃ g : Nat, Q q = (g : Int) ∧ T g = (5, 0, lkD g)) (hG : G 1 = 6) (hg : Q 0 = (g : Int)) (hgd : dsk T g) (hg12 : 12 ≤ g) : Runs mX2_store 1 0 0 [vR 10, vR 1] N T (sa (sa v 11 Q) 10 G) none N T (up (cpd (sa (sa v 11 (rs (rtN Q 6) 5 (Q 0))) 10 (rs G 1 5)) g 1 24 10 true) 10 1 6) := by
  have h5 : (rs (rtN Q 6) 5 (Q 0)) 5 = (g : Int) := by rw [rs_eq]; exact hg
  have hG5 : rs G 1 5 1 = 5 := rs_eq _ _ _
  refine Runs.of (by decide) (Nat.le_of_ble_eq_true rfl) fun κ C => ?_
  refine M_aload_n (pc := 0) C dX2_store_0 rfl (by decide) ?_
  refine A_getI (pc := 1) C fl_X2_17 rfl (a := 10) rfl (tt_10 hT) dX2_store_1 (fun (r_1 : i32 (G 1)) => ?_)
  refine M.to (pc := 4) (st2 := [vI (G 1)]) ?_ rfl rfl rfl
  refine M_bipush (pc := 4) C (by decide) dX2_store_4 ?_
  refine M_icmp_lt (pc := 6) C (tgt := 13) (by omega) (by omega) dX2_store_6 (by decide) (fun h_6 => ?_) (fun h_6 => ?_)
  · exfalso
    omega
  · refine M_aload_n (pc := 9) C dX2_store_9 rfl (by decide) ?_
    refine A_cVv (pc := 10) C (a := 10) (c := 2) (c_X2_dropOldest hT (v := v) (Q := Q) (G := G) hQ hG) yw_X2_dropOldest lk_X2_22 rfl (congrArg Prod.fst (tt_10 hT)) hc_2 rfl dX2_store_10 rfl (Nat.le_of_ble_eq_true rfl) (by decide) ⟨Nat.le_refl _, Nat.le_refl _⟩ ?_
    refine M_aload_n (pc := 13) C dX2_store_13 rfl (by decide) ?_
    refine A_getI (pc := 14) C fl_X2_17 rfl (a := 10) rfl (tt_10 hT) dX2_store_14 (fun (r_14 : i32 ((rs G 1 5) 1)) => ?_)
    refine M.to (pc := 17) (st2 := [vI ((rs G 1 5) 1)]) ?_ rfl rfl rfl
    refine M_if_lt (pc := 17) C (tgt := 64) (by omega) dX2_store_17 (by decide) (fun h_17 => ?_) (fun h_17 => ?_)
    · exfalso
      omega
    · refine M_aload_n (pc := 20) C dX2_store_20 rfl (by decide) ?_
      refine A_getI (pc := 21) C fl_X2_17 rfl (a := 10) rfl (tt_10 hT) dX2_store_21 (fun (r_21 : i32 ((rs G 1 5) 1)) => ?_)
      refine M.to (pc := 24) (st2 := [vI ((rs G 1 5) 1)]) ?_ rfl rfl rfl
      refine M_bipush (pc := 24) C (by decide) dX2_store_24 ?_
      refine M_icmp_ge (pc := 26) C (tgt := 64) (by omega) (by omega) dX2_store_26 (by decide) (fun h_26 => ?_) (fun h_26 => ?_)
      · exfalso
        omega
      · refine M_aload_n (pc := 29) C dX2_store_29 rfl (by decide) ?_
        refine A_getR (pc := 30) C fl_X2_11 rfl (a := 10) (j := 11) rfl (tt_10 hT) rfl dX2_store_30 ?_
        refine M_aload_n (pc := 33) C dX2_store_33 rfl (by decide) ?_
        refine A_getI (pc := 34) C fl_X2_17 rfl (a := 10) rfl (tt_10 hT) dX2_store_34 (fun (r_34 : i32 ((rs G 1 5) 1)) => ?_)
        refine M.to (pc := 37) (st2 := [vI ((rs G 1 5) 1), vR 11]) ?_ rfl rfl rfl
        refine M.to (st2 := [vI 5, vR 11]) ?_ rfl (by rw [hG5]) rfl
        refine A_aald (pc := 37) C (a := 11) (q := 5) rfl (tt_11 hT) (by decide) (by omega) (by omega) dX2_store_37 (fun (r_37 : i32 ((rs (rtN Q 6) 5 (Q 0)) 5)) => ?_)
        refine M.to (pc := 38) (st2 := [vR ((rs (rtN Q 6) 5 (Q 0)) 5)]) ?_ rfl rfl rfl
        refine M_ifnull (pc := 38) C (tgt := 64) (by omega) dX2_store_38 (by decide) (fun h_38 => ?_) (fun h_38 => ?_)
        · exfalso
          omega
        · refine M_aload_n (pc := 41) C dX2_store_41 rfl (by decide) ?_
          refine A_getR (pc := 42) C fl_X2_11 rfl (a := 10) (j := 11) rfl (tt_10 hT) rfl dX2_store_42 ?_
          refine M_aload_n (pc := 45) C dX2_store_45 rfl (by decide) ?_
          refine A_getI (pc := 46) C fl_X2_17 rfl (a := 10) rfl (tt_10 hT) dX2_store_46 (fun (r_46 : i32 ((rs G 1 5) 1)) => ?_)
          refine M.to (pc := 49) (st2 := [vI ((rs G 1 5) 1), vR 11]) ?_ rfl rfl rfl
          refine M.to (st2 := [vI 5, vR 11]) ?_ rfl (by rw [hG5]) rfl
          refine A_aald (pc := 49) C (a := 11) (q := 5) rfl (tt_11 hT) (by decide) (by omega) (by omega) dX2_store_49 (fun (r_49 : i32 ((rs (rtN Q 6) 5 (Q 0)) 5)) => ?_)
          refine M.to (pc := 50) (st2 := [vR ((rs (rtN Q 6) 5 (Q 0)) 5)]) ?_ rfl rfl rfl
          refine M.to (st2 := [vR ((g : Nat) : Int)]) ?_ rfl (by rw [h5]) rfl
          refine M_aload_n (pc := 50) C dX2_store_50 rfl (by decide) ?_
          refine A_cVv (pc := 51) C (a := g) (c := 0) (c_X0_copyFrom (v := sa (sa v 11 (rs (rtN Q 6) 5 (Q 0))) 10 (rs G 1 5)) (a := g) (b := 1) hT hgd (dsk_1 hT) (Or.inr (by omega))) yw_X0_copyFrom lk_X2_25 rfl (congrArg Prod.fst hgd.1) hc_0 rfl dX2_store_51 rfl (Nat.le_of_ble_eq_true rfl) (by decide) ⟨Nat.le_refl _, Nat.le_refl _⟩ ?_
          refine M_aload_n (pc := 54) C dX2_store_54 rfl (by decide) ?_
          refine M_dup (pc := 55) C rfl dX2_store_55 ?_
          refine A_getI (pc := 56) C fl_X2_17 rfl (a := 10) rfl (tt_10 hT) dX2_store_56 (fun (r_56 : i32 ((cpd (sa (sa v 11 (rs (rtN Q 6) 5 (Q 0))) 10 (rs G 1 5)) g 1 24 10 true) 10 1)) => ?_)
          refine M_iconst (pc := 59) C dX2_store_59 ?_
          refine M_iadd (pc := 60) C dX2_store_60 ?_
          have e9 : (cpd (sa (sa v 11 (rs (rtN Q 6) 5 (Q 0))) 10 (rs G 1 5)) g 1 24 10 true) 10 1 = 5 := by rw [cpd_o (by omega)]; exact hG5
          rw [e9] at r_56
          refine M.to (st2 := [vI 6, vR 10]) ?_ rfl (by rw [e9]; rfl) rfl
          refine A_putI (pc := 61) C fl_X2_17 rfl (by decide) (a := 10) rfl (tt_10 hT) (by omega) dX2_store_61 ?_
          exact M_vret (pc := 64) C rfl dX2_store_64 rfl rfl
