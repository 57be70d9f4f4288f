theorem c_X7_clearBuffer {N : Nat} {T : Ty} {X : Nat → Int} {v : Ct} (hT : TT T)  : Runs mX7_clearBuffer 1 0 0 [vR 0] N T (sa v 67 X) (some (vI (X 1))) N T (sa v 67 (rs X 1 0)) := by
  refine Runs.of (by decide) (Nat.le_of_ble_eq_true rfl) fun κ C => ?_
  refine M_aload_n (pc := 0) C dX7_clearBuffer_0 rfl (by decide) ?_
  refine A_getR (pc := 1) C fl_X7_30 rfl (a := 0) (j := 67) rfl (tt_0 hT) rfl dX7_clearBuffer_1 ?_
  refine A_cV (pc := 4) C (x := vI (X 1)) (a := 67) (c := 6) (c_X6_length hT (v := sa v 67 X)) yw_X6_length lk_X7_131 rfl (congrArg Prod.fst (tt_67 hT)) hc_6 rfl dX7_clearBuffer_4 rfl (Nat.le_of_ble_eq_true rfl) (by decide) ⟨Nat.le_refl _, Nat.le_refl _⟩ ?_
  refine M_rd (pc := 7) C 67 1 (fun (r_4_0 : i32 (X 1)) => ?_)
  refine M_istore_n (pc := 7) C dX7_clearBuffer_7 (by decide) ?_
  refine M_aload_n (pc := 8) C dX7_clearBuffer_8 rfl (by decide) ?_
  refine A_getR (pc := 9) C fl_X7_30 rfl (a := 0) (j := 67) rfl (tt_0 hT) rfl dX7_clearBuffer_9 ?_
  refine A_cVv (pc := 12) C (a := 67) (c := 6) (c_X6_empty hT (v := v) (X := X)) yw_X6_empty lk_X7_135 rfl (congrArg Prod.fst (tt_67 hT)) hc_6 rfl dX7_clearBuffer_12 rfl (Nat.le_of_ble_eq_true rfl) (by decide) ⟨Nat.le_refl _, Nat.le_refl _⟩ ?_
  refine M_iload_n (pc := 15) C dX7_clearBuffer_15 rfl ?_
  exact M_iret (pc := 16) C rfl dX7_clearBuffer_16 rfl rfl
theorem c_X7_firstError {N : Nat} {T : Ty} {D : Nat → Int} {n : Nat} {v : Ct} (hT : TT T) (hx : v 67 1 = (n : Int)) (hn : n ≤ 60) : Runs mX7_firstError 4 0 0 [vR 0] N T (sa v 69 D) (some (vI (rdV (v 68) D n))) N T (sa v 69 (rdE (v 68) D n)) := by
  refine Runs.of (by decide) (Nat.le_of_ble_eq_true rfl) fun κ C => ?_
  refine M_aload_n (pc := 0) C dX7_firstError_0 rfl (by decide) ?_
  refine A_getR (pc := 1) C fl_X7_37 rfl (a := 0) (j := 69) rfl (tt_0 hT) rfl dX7_firstError_1 ?_
  refine M_aload_n (pc := 4) C dX7_firstError_4 rfl (by decide) ?_
  refine A_getR (pc := 5) C fl_X7_30 rfl (a := 0) (j := 67) rfl (tt_0 hT) rfl dX7_firstError_5 ?_
  refine A_cV (pc := 8) C (x := vI (rdV (v 68) D n)) (a := 69) (c := 3) (c_X3_readable hT (v := v) (D := D) (n := n) hx hn) yw_X3_readable lk_X7_138 rfl (congrArg Prod.fst (tt_69 hT)) hc_3 rfl dX7_firstError_8 rfl (Nat.le_of_ble_eq_true rfl) (by decide) ⟨Nat.le_refl _, Nat.le_refl _⟩ ?_
  exact M_iret (pc := 11) C rfl dX7_firstError_11 rfl rfl
