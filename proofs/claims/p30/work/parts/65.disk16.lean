theorem c_X2_held {N : Nat} {T : Ty} {v : Ct} (hT : TT T)  : Runs mX2_held 0 0 0 [vR 10] N T v (some (vI (v 10 1))) N T v := by
  refine Runs.of (by decide) (Nat.le_of_ble_eq_true rfl) fun κ C => ?_
  refine M_aload_n (pc := 0) C dX2_held_0 rfl (by decide) ?_
  refine A_getI (pc := 1) C fl_X2_17 rfl (a := 10) rfl (tt_10 hT) dX2_held_1 (fun (r_1 : i32 (v 10 1)) => ?_)
  exact M_iret (pc := 4) C rfl dX2_held_4 rfl rfl
theorem c_X7_weakest {N : Nat} {T : Ty} {v : Ct} (hT : TT T)  : Runs mX7_weakest 3 0 0 [vR 0] N T v (some (vI (wkN (cwN (v 2) (v 3) (v 5) (v 6) (v 8)) 24).1)) N T v := by
  refine Runs.of (by decide) (Nat.le_of_ble_eq_true rfl) fun κ C => ?_
  refine M_iconst (pc := 0) C dX7_weakest_0 ?_
  refine M_istore_n (pc := 1) C dX7_weakest_1 (by decide) ?_
  refine M_iconst (pc := 2) C dX7_weakest_2 ?_
  refine M_istore_n (pc := 3) C dX7_weakest_3 (by decide) ?_
  refine M_iconst (pc := 4) C dX7_weakest_4 ?_
  refine M_istore_n (pc := 5) C dX7_weakest_5 (by decide) ?_
  refine loop_le (P := fun i => M κ N T 6 [some (vR 0), some (vI ((wkN (cwN (v 2) (v 3) (v 5) (v 6) (v 8)) i).1)), some (vI ((wkN (cwN (v 2) (v 3) (v 5) (v 6) (v 8)) i).2)), some (vI ((i : Nat) : Int)), none] [] v 0 0 (QR κ (some (vI (wkN (cwN (v 2) (v 3) (v 5) (v 6) (v 8)) 24).1)) N T v 0 0)) 24 (fun i hi ih => ?_)
  have hwk := wkN_bd (cwN_bd (v 2) (v 3) (v 5) (v 6) (v 8)) i
  have hcw := cwN_bd (v 2) (v 3) (v 5) (v 6) (v 8) i
  refine M_iload_n (pc := 6) C dX7_weakest_6 rfl ?_
  refine M_bipush (pc := 7) C (by decide) dX7_weakest_7 ?_
  refine M_icmp_ge (pc := 9) C (tgt := 55) (by omega) (by omega) dX7_weakest_9 (by decide) (fun h_9 => ?_) (fun h_9 => ?_)
  · refine M_iload_n (pc := 55) C dX7_weakest_55 rfl ?_
    exact M_iret (pc := 56) C rfl dX7_weakest_56 (by rw [show i = 24 by omega]) rfl
  · refine M_aload_n (pc := 12) C dX7_weakest_12 rfl (by decide) ?_
    refine A_getR (pc := 13) C fl_X7_12 rfl (a := 0) (j := 1) rfl (tt_0 hT) rfl dX7_weakest_13 ?_
    refine M_iload_n (pc := 16) C dX7_weakest_16 rfl ?_
    refine A_cV (pc := 17) C (x := vI (v 2 i)) (a := 1) (c := 0) (c_X0_kindOf_n hT (b := i) (by omega)) yw_X0_kindOf lk_X7_84 rfl (congrArg Prod.fst (tt_1 hT)) hc_0 rfl dX7_weakest_17 rfl (Nat.le_of_ble_eq_true rfl) (by decide) ⟨Nat.le_refl _, Nat.le_refl _⟩ ?_
    refine M_rd (pc := 20) C 2 i (fun (r_17_0 : i32 (v 2 i)) => ?_)
    refine M_iconst (pc := 20) C dX7_weakest_20 ?_
    refine M_icmp_ne (pc := 21) C (tgt := 28) (by omega) (by omega) dX7_weakest_21 (by decide) (fun h_21 => ?_) (fun h_21 => ?_)
    · have hc1 : cwN (v 2) (v 3) (v 5) (v 6) (v 8) i = sumN (fun f => Bi (hsB (v 3) (v 5) (v 6) f i && decide (v 8 f = 0))) 10 := if_neg h_21
      refine M_aload_n (pc := 28) C dX7_weakest_28 rfl (by decide) ?_
      refine A_getR (pc := 29) C fl_X7_12 rfl (a := 0) (j := 1) rfl (tt_0 hT) rfl dX7_weakest_29 ?_
      refine M_iload_n (pc := 32) C dX7_weakest_32 rfl ?_
      refine A_cV (pc := 33) C (x := vI (sumN (fun f => Bi (hsB (v 3) (v 5) (v 6) f i && decide ((v 8) f = 0))) 10)) (a := 1) (c := 0) (c_X0_soundFilesIn hT (b := i) (by omega)) yw_X0_soundFilesIn lk_X7_213 rfl (congrArg Prod.fst (tt_1 hT)) hc_0 rfl dX7_weakest_33 rfl (Nat.le_of_ble_eq_true rfl) (by decide) ⟨Nat.le_refl _, Nat.le_refl _⟩ ?_
      refine M.to (st2 := [vI (cwN (v 2) (v 3) (v 5) (v 6) (v 8) i)]) ?_ rfl (by rw [hc1]) rfl
      refine M_istore (pc := 36) C dX7_weakest_36 (by decide) ?_
      refine M_iload (pc := 38) C dX7_weakest_38 rfl ?_
      refine M_iload_n (pc := 40) C dX7_weakest_40 rfl ?_
      refine M_icmp_le (pc := 41) C (tgt := 49) (by omega) (by omega) dX7_weakest_41 (by decide) (fun h_41 => ?_) (fun h_41 => ?_)
      · refine M_iinc (pc := 49) C dX7_weakest_49 rfl (by decide) ?_
        refine M_goto (pc := 52) C (tgt := 6) dX7_weakest_52 (by decide) ?_
        refine M.drop [true, true, true, true, false] rfl ?_
        exact M.to (ih (by omega)) (by first | (rw [wkN_t (by omega)]; rfl) | (rw [wkN_f (by omega)]; rfl)) rfl rfl
      · refine M_iload (pc := 44) C dX7_weakest_44 rfl ?_
        refine M_istore_n (pc := 46) C dX7_weakest_46 (by decide) ?_
        refine M_iload_n (pc := 47) C dX7_weakest_47 rfl ?_
        refine M_istore_n (pc := 48) C dX7_weakest_48 (by decide) ?_
        refine M_iinc (pc := 49) C dX7_weakest_49 rfl (by decide) ?_
        refine M_goto (pc := 52) C (tgt := 6) dX7_weakest_52 (by decide) ?_
        refine M.drop [true, true, true, true, false] rfl ?_
        exact M.to (ih (by omega)) (by first | (rw [wkN_t (by omega)]; rfl) | (rw [wkN_f (by omega)]; rfl)) rfl rfl
    · have hc1 : cwN (v 2) (v 3) (v 5) (v 6) (v 8) i = 0 := if_pos h_21
      refine M_iconst (pc := 24) C dX7_weakest_24 ?_
      refine M_goto (pc := 25) C (tgt := 36) dX7_weakest_25 (by decide) ?_
      refine M.to (st2 := [vI (cwN (v 2) (v 3) (v 5) (v 6) (v 8) i)]) ?_ rfl (by rw [hc1]) rfl
      refine M_istore (pc := 36) C dX7_weakest_36 (by decide) ?_
      refine M_iload (pc := 38) C dX7_weakest_38 rfl ?_
      refine M_iload_n (pc := 40) C dX7_weakest_40 rfl ?_
      refine M_icmp_le (pc := 41) C (tgt := 49) (by omega) (by omega) dX7_weakest_41 (by decide) (fun h_41 => ?_) (fun h_41 => ?_)
      · refine M_iinc (pc := 49) C dX7_weakest_49 rfl (by decide) ?_
        refine M_goto (pc := 52) C (tgt := 6) dX7_weakest_52 (by decide) ?_
        refine M.drop [true, true, true, true, false] rfl ?_
        exact M.to (ih (by omega)) (by first | (rw [wkN_t (by omega)]; rfl) | (rw [wkN_f (by omega)]; rfl)) rfl rfl
      · refine M_iload (pc := 44) C dX7_weakest_44 rfl ?_
        refine M_istore_n (pc := 46) C dX7_weakest_46 (by decide) ?_
        refine M_iload_n (pc := 47) C dX7_weakest_47 rfl ?_
        refine M_istore_n (pc := 48) C dX7_weakest_48 (by decide) ?_
        refine M_iinc (pc := 49) C dX7_weakest_49 rfl (by decide) ?_
        refine M_goto (pc := 52) C (tgt := 6) dX7_weakest_52 (by decide) ?_
        refine M.drop [true, true, true, true, false] rfl ?_
        exact M.to (ih (by omega)) (by first | (rw [wkN_t (by omega)]; rfl) | (rw [wkN_f (by omega)]; rfl)) rfl rfl
