theorem c_X8_of {N : Nat} {T : Ty} {f w : Nat} {v : Ct} (hT : TT T) (h : 27 + 18 * f + w < 207) : Runs mX8_of 0 0 0 [vR 84, vI ((f : Nat) : Int), vI ((w : Nat) : Int)] N T v (some (vI (v 85 (27 + 18 * f + w)))) N T v := by
  refine Runs.of (by decide) (Nat.le_of_ble_eq_true rfl) fun κ C => ?_
  refine M_aload_n (pc := 0) C dX8_of_0 rfl (by decide) ?_
  refine A_getR (pc := 1) C fl_X8_7 rfl (a := 84) (j := 85) rfl (tt_84 hT) rfl dX8_of_1 ?_
  refine M_bipush (pc := 4) C (by decide) dX8_of_4 ?_
  refine M_bipush (pc := 6) C (by decide) dX8_of_6 ?_
  refine M_iload_n (pc := 8) C dX8_of_8 rfl ?_
  refine M_imul (pc := 9) C dX8_of_9 ?_
  refine M_iadd (pc := 10) C dX8_of_10 ?_
  refine M_iload_n (pc := 11) C dX8_of_11 rfl ?_
  refine M_iadd (pc := 12) C dX8_of_12 ?_
  refine A_iald (pc := 13) C (a := 85) (q := ((27 + (18 * f)) + w)) rfl (tt_85 hT) (by decide) (by omega) (by omega) dX8_of_13 (fun r_13 => ?_)
  exact M_iret (pc := 14) C rfl dX8_of_14 rfl rfl
theorem c_X8_lay {N : Nat} {T : Ty} {f w : Nat} {x : Int} {v : Ct} (hT : TT T) (h : 27 + 18 * f + w < 207) (hx : i32 x) : Runs mX8_lay 0 0 0 [vR 84, vI ((f : Nat) : Int), vI ((w : Nat) : Int), vI x] N T v none N T (up v 85 (27 + 18 * f + w) x) := by
  refine Runs.of (by decide) (Nat.le_of_ble_eq_true rfl) fun κ C => ?_
  refine M_aload_n (pc := 0) C dX8_lay_0 rfl (by decide) ?_
  refine A_getR (pc := 1) C fl_X8_7 rfl (a := 84) (j := 85) rfl (tt_84 hT) rfl dX8_lay_1 ?_
  refine M_bipush (pc := 4) C (by decide) dX8_lay_4 ?_
  refine M_bipush (pc := 6) C (by decide) dX8_lay_6 ?_
  refine M_iload_n (pc := 8) C dX8_lay_8 rfl ?_
  refine M_imul (pc := 9) C dX8_lay_9 ?_
  refine M_iadd (pc := 10) C dX8_lay_10 ?_
  refine M_iload_n (pc := 11) C dX8_lay_11 rfl ?_
  refine M_iadd (pc := 12) C dX8_lay_12 ?_
  refine M_iload_n (pc := 13) C dX8_lay_13 rfl ?_
  refine A_iast (pc := 14) C (a := 85) (q := ((27 + (18 * f)) + w)) rfl (tt_85 hT) (by decide) (by omega) (by omega) (by omega) dX8_lay_14 ?_
  exact M_vret (pc := 15) C rfl dX8_lay_15 rfl rfl
