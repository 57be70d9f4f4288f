theorem c_X6_length {N : Nat} {T : Ty} {v : Ct} (hT : TT T)  : Runs mX6_length 0 0 0 [vR 67] N T v (some (vI (v 67 1))) N T v := by
  refine Runs.of (by decide) (Nat.le_of_ble_eq_true rfl) fun κ C => ?_
  refine M_aload_n (pc := 0) C dX6_length_0 rfl (by decide) ?_
  refine A_getI (pc := 1) C fl_X6_15 rfl (a := 67) rfl (tt_67 hT) dX6_length_1 (fun (r_1 : i32 (v 67 1)) => ?_)
  exact M_iret (pc := 4) C rfl dX6_length_4 rfl rfl
theorem c_X6_isFull {N : Nat} {T : Ty} {v : Ct} (hT : TT T)  : Runs mX6_isFull 0 0 0 [vR 67] N T v (some (vI (Bi (decide (60 ≤ v 67 1))))) N T v := by
  refine Runs.of (by decide) (Nat.le_of_ble_eq_true rfl) fun κ C => ?_
  refine M_aload_n (pc := 0) C dX6_isFull_0 rfl (by decide) ?_
  refine A_getI (pc := 1) C fl_X6_15 rfl (a := 67) rfl (tt_67 hT) dX6_isFull_1 (fun (r_1 : i32 (v 67 1)) => ?_)
  refine M_bipush (pc := 4) C (by decide) dX6_isFull_4 ?_
  refine M_icmp_lt (pc := 6) C (tgt := 13) (by omega) (by omega) dX6_isFull_6 (by decide) (fun h_6 => ?_) (fun h_6 => ?_)
  · refine M_iconst (pc := 13) C dX6_isFull_13 ?_
    exact M_zret (pc := 14) C rfl (Or.inl rfl) dX6_isFull_14 (by first | (rw [decide_eq_true (by omega)]; rfl) | (rw [decide_eq_false (by omega)]; rfl)) rfl
  · refine M_iconst (pc := 9) C dX6_isFull_9 ?_
    refine M_goto (pc := 10) C (tgt := 14) dX6_isFull_10 (by decide) ?_
    exact M_zret (pc := 14) C rfl (Or.inr rfl) dX6_isFull_14 (by first | (rw [decide_eq_true (by omega)]; rfl) | (rw [decide_eq_false (by omega)]; rfl)) rfl
theorem c_X6_add {N : Nat} {T : Ty} {U X : Nat → Int} {n : Nat} {c : Int} {v : Ct} (hT : TT T) (hx : X 1 = (n : Int)) (hn : n < 60) (hc : i32 c) : Runs mX6_add 0 0 0 [vR 67, vI c] N T (sa (sa v 68 U) 67 X) none N T (sa (sa v 68 (rs U n c)) 67 (rs X 1 ((n + 1 : Nat) : Int))) := by
  refine Runs.of (by decide) (Nat.le_of_ble_eq_true rfl) fun κ C => ?_
  refine M_aload_n (pc := 0) C dX6_add_0 rfl (by decide) ?_
  refine A_getI (pc := 1) C fl_X6_15 rfl (a := 67) rfl (tt_67 hT) dX6_add_1 (fun (r_1 : i32 (X 1)) => ?_)
  refine M.to (pc := 4) (st2 := [vI (X 1)]) ?_ rfl rfl rfl
  refine M_if_lt (pc := 4) C (tgt := 36) (by omega) dX6_add_4 (by decide) (fun h_4 => ?_) (fun h_4 => ?_)
  · exfalso
    omega
  · refine M_aload_n (pc := 7) C dX6_add_7 rfl (by decide) ?_
    refine A_getI (pc := 8) C fl_X6_15 rfl (a := 67) rfl (tt_67 hT) dX6_add_8 (fun (r_8 : i32 (X 1)) => ?_)
    refine M.to (pc := 11) (st2 := [vI (X 1)]) ?_ rfl rfl rfl
    refine M_bipush (pc := 11) C (by decide) dX6_add_11 ?_
    refine M_icmp_ge (pc := 13) C (tgt := 36) (by omega) (by omega) dX6_add_13 (by decide) (fun h_13 => ?_) (fun h_13 => ?_)
    · exfalso
      omega
    · refine M_aload_n (pc := 16) C dX6_add_16 rfl (by decide) ?_
      refine A_getR (pc := 17) C fl_X6_9 rfl (a := 67) (j := 68) rfl (tt_67 hT) rfl dX6_add_17 ?_
      refine M_aload_n (pc := 20) C dX6_add_20 rfl (by decide) ?_
      refine A_getI (pc := 21) C fl_X6_15 rfl (a := 67) rfl (tt_67 hT) dX6_add_21 (fun (r_21 : i32 (X 1)) => ?_)
      refine M.to (pc := 24) (st2 := [vI (X 1), vR 68]) ?_ rfl rfl rfl
      refine M_iload_n (pc := 24) C dX6_add_24 rfl ?_
      refine A_iast (pc := 25) C (a := 68) (q := n) rfl (tt_68 hT) (by decide) (by omega) (by omega) (by omega) dX6_add_25 ?_
      refine M.to (pc := 26) (v2 := sa (sa v 68 (rs U n c)) 67 X) ?_ rfl rfl (by rw [sa_up1 (by decide), sa_up0])
      refine M_aload_n (pc := 26) C dX6_add_26 rfl (by decide) ?_
      refine M_dup (pc := 27) C rfl dX6_add_27 ?_
      refine A_getI (pc := 28) C fl_X6_15 rfl (a := 67) rfl (tt_67 hT) dX6_add_28 (fun (r_28 : i32 (X 1)) => ?_)
      refine M.to (pc := 31) (st2 := [vI (X 1), vR 67]) ?_ rfl rfl rfl
      refine M_iconst (pc := 31) C dX6_add_31 ?_
      refine M_iadd (pc := 32) C dX6_add_32 ?_
      refine A_putI (pc := 33) C fl_X6_15 rfl (by decide) (a := 67) rfl (tt_67 hT) (by omega) dX6_add_33 ?_
      refine M.to (pc := 36) (v2 := sa (sa v 68 (rs U n c)) 67 (rs X 1 ((X 1) + 1))) ?_ rfl rfl (by rw [sa_up0])
      exact M_vret (pc := 36) C rfl dX6_add_36 (by rw [hx]; rfl) rfl
theorem c_X6_empty {N : Nat} {T : Ty} {X : Nat → Int} {v : Ct} (hT : TT T)  : Runs mX6_empty 0 0 0 [vR 67] N T (sa v 67 X) none N T (sa v 67 (rs X 1 0)) := by
  refine Runs.of (by decide) (Nat.le_of_ble_eq_true rfl) fun κ C => ?_
  refine M_aload_n (pc := 0) C dX6_empty_0 rfl (by decide) ?_
  refine M_iconst (pc := 1) C dX6_empty_1 ?_
  refine A_putI (pc := 2) C fl_X6_15 rfl (by decide) (a := 67) rfl (tt_67 hT) (by omega) dX6_empty_2 ?_
  refine M.to (pc := 5) (v2 := sa v 67 (rs X 1 0)) ?_ rfl rfl (by rw [sa_up0])
  exact M_vret (pc := 5) C rfl dX6_empty_5 rfl rfl
theorem c_X6_codeAt {N : Nat} {T : Ty} {a : Int} {n : Nat} {v : Ct} (hT : TT T) (hx : v 67 1 = (n : Int)) (hn : n ≤ 60) (ha : i32 a) : Runs mX6_codeAt 0 0 0 [vR 67, vI a] N T v (some (vI (if 0 ≤ a ∧ a < n then v 68 a.toNat else -1))) N T v := by
  refine Runs.of (by decide) (Nat.le_of_ble_eq_true rfl) fun κ C => ?_
  refine M_iload_n (pc := 0) C dX6_codeAt_0 rfl ?_
  refine M_if_lt (pc := 1) C (tgt := 27) (by omega) dX6_codeAt_1 (by decide) (fun h_1 => ?_) (fun h_1 => ?_)
  · refine M_iconst (pc := 27) C dX6_codeAt_27 ?_
    exact M_iret (pc := 28) C rfl dX6_codeAt_28 (by first | (rw [if_pos (by omega)]; done) | (rw [if_neg (by omega)]; done)) rfl
  · refine M_iload_n (pc := 4) C dX6_codeAt_4 rfl ?_
    refine M_aload_n (pc := 5) C dX6_codeAt_5 rfl (by decide) ?_
    refine A_getI (pc := 6) C fl_X6_15 rfl (a := 67) rfl (tt_67 hT) dX6_codeAt_6 (fun (r_6 : i32 (v 67 1)) => ?_)
    refine M_icmp_ge (pc := 9) C (tgt := 27) (by omega) (by omega) dX6_codeAt_9 (by decide) (fun h_9 => ?_) (fun h_9 => ?_)
    · refine M_iconst (pc := 27) C dX6_codeAt_27 ?_
      exact M_iret (pc := 28) C rfl dX6_codeAt_28 (by first | (rw [if_pos (by omega)]; done) | (rw [if_neg (by omega)]; done)) rfl
    · refine M_iload_n (pc := 12) C dX6_codeAt_12 rfl ?_
      refine M_bipush (pc := 13) C (by decide) dX6_codeAt_13 ?_
      refine M_icmp_ge (pc := 15) C (tgt := 27) (by omega) (by omega) dX6_codeAt_15 (by decide) (fun h_15 => ?_) (fun h_15 => ?_)
      · refine M_iconst (pc := 27) C dX6_codeAt_27 ?_
        exact M_iret (pc := 28) C rfl dX6_codeAt_28 (by first | (rw [if_pos (by omega)]; done) | (rw [if_neg (by omega)]; done)) rfl
      · refine M_aload_n (pc := 18) C dX6_codeAt_18 rfl (by decide) ?_
        refine A_getR (pc := 19) C fl_X6_9 rfl (a := 67) (j := 68) rfl (tt_67 hT) rfl dX6_codeAt_19 ?_
        refine M_iload_n (pc := 22) C dX6_codeAt_22 rfl ?_
        refine A_iald (pc := 23) C (a := 68) (q := a.toNat) rfl (tt_68 hT) (by decide) (by omega) (by omega) dX6_codeAt_23 (fun (r_23 : i32 (v 68 a.toNat)) => ?_)
        refine M_goto (pc := 24) C (tgt := 28) dX6_codeAt_24 (by decide) ?_
        exact M_iret (pc := 28) C rfl dX6_codeAt_28 (by first | (rw [if_pos (by omega)]; done) | (rw [if_neg (by omega)]; done)) rfl
theorem c_X3_begin {N : Nat} {T : Ty} {D : Nat → Int} {v : Ct} (hT : TT T)  : Runs mX3_begin 0 0 0 [vR 69] N T (sa v 69 D) none N T (sa v 69 (rs D 0 0)) := by
  refine Runs.of (by decide) (Nat.le_of_ble_eq_true rfl) fun κ C => ?_
  refine M_aload_n (pc := 0) C dX3_begin_0 rfl (by decide) ?_
  refine M_iconst (pc := 1) C dX3_begin_1 ?_
  refine A_putI (pc := 2) C fl_X3_11 rfl (by decide) (a := 69) rfl (tt_69 hT) (by omega) dX3_begin_2 ?_
  refine M.to (pc := 5) (v2 := sa v 69 (rs D 0 0)) ?_ rfl rfl (by rw [sa_up0])
  exact M_vret (pc := 5) C rfl dX3_begin_5 rfl rfl
theorem c_X3_isDigit {N : Nat} {T : Ty} {c : Int} {v : Ct} (hT : TT T) (hc : i32 c) : Runs mX3_isDigit 0 0 0 [vI c] N T v (some (vI (Bi (decide (48 ≤ c ∧ c ≤ 57))))) N T v := by
  refine Runs.of (by decide) (Nat.le_of_ble_eq_true rfl) fun κ C => ?_
  refine M_iload_n (pc := 0) C dX3_isDigit_0 rfl ?_
  refine M_bipush (pc := 1) C (by decide) dX3_isDigit_1 ?_
  refine M_icmp_lt (pc := 3) C (tgt := 16) (by omega) (by omega) dX3_isDigit_3 (by decide) (fun h_3 => ?_) (fun h_3 => ?_)
  · refine M_iconst (pc := 16) C dX3_isDigit_16 ?_
    exact M_zret (pc := 17) C rfl (Or.inl rfl) dX3_isDigit_17 (by first | (rw [decide_eq_true (by omega)]; rfl) | (rw [decide_eq_false (by omega)]; rfl)) rfl
  · refine M_iload_n (pc := 6) C dX3_isDigit_6 rfl ?_
    refine M_bipush (pc := 7) C (by decide) dX3_isDigit_7 ?_
    refine M_icmp_gt (pc := 9) C (tgt := 16) (by omega) (by omega) dX3_isDigit_9 (by decide) (fun h_9 => ?_) (fun h_9 => ?_)
    · refine M_iconst (pc := 16) C dX3_isDigit_16 ?_
      exact M_zret (pc := 17) C rfl (Or.inl rfl) dX3_isDigit_17 (by first | (rw [decide_eq_true (by omega)]; rfl) | (rw [decide_eq_false (by omega)]; rfl)) rfl
    · refine M_iconst (pc := 12) C dX3_isDigit_12 ?_
      refine M_goto (pc := 13) C (tgt := 17) dX3_isDigit_13 (by decide) ?_
      exact M_zret (pc := 17) C rfl (Or.inr rfl) dX3_isDigit_17 (by first | (rw [decide_eq_true (by omega)]; rfl) | (rw [decide_eq_false (by omega)]; rfl)) rfl
theorem c_X3_takeSign {N : Nat} {T : Ty} {D : Nat → Int} {c : Int} {v : Ct} (hT : TT T) (hc : i32 c) : Runs mX3_takeSign 0 0 0 [vR 69, vI c] N T (sa v 69 D) (some (vI (Bi (decide (c = 43 ∨ c = 45 ∨ c = 60 ∨ c = 62))))) N T (sa v 69 (oSg D c)) := by
  refine Runs.of (by decide) (Nat.le_of_ble_eq_true rfl) fun κ C => ?_
  refine M_iload_n (pc := 0) C dX3_takeSign_0 rfl ?_
  refine M_bipush (pc := 1) C (by decide) dX3_takeSign_1 ?_
  refine M_icmp_eq (pc := 3) C (tgt := 26) (by omega) (by omega) dX3_takeSign_3 (by decide) (fun h_3 => ?_) (fun h_3 => ?_)
  · refine M_aload_n (pc := 26) C dX3_takeSign_26 rfl (by decide) ?_
    refine M_iload_n (pc := 27) C dX3_takeSign_27 rfl ?_
    refine A_putI (pc := 28) C fl_X3_15 rfl (by decide) (a := 69) rfl (tt_69 hT) (by omega) dX3_takeSign_28 ?_
    refine M.to (pc := 31) (v2 := sa v 69 (rs D 1 c)) ?_ rfl rfl (by rw [sa_up0])
    refine M_aload_n (pc := 31) C dX3_takeSign_31 rfl (by decide) ?_
    refine M_iload_n (pc := 32) C dX3_takeSign_32 rfl ?_
    refine M_bipush (pc := 33) C (by decide) dX3_takeSign_33 ?_
    refine M_icmp_ne (pc := 35) C (tgt := 42) (by omega) (by omega) dX3_takeSign_35 (by decide) (fun h_35 => ?_) (fun h_35 => ?_)
    · refine M_iconst (pc := 42) C dX3_takeSign_42 ?_
      refine A_putI (pc := 43) C fl_X3_11 rfl (by decide) (a := 69) rfl (tt_69 hT) (by omega) dX3_takeSign_43 ?_
      refine M.to (pc := 46) (v2 := sa v 69 (rs (rs D 1 c) 0 1)) ?_ rfl rfl (by rw [sa_up0])
      refine M_iconst (pc := 46) C dX3_takeSign_46 ?_
      exact M_zret (pc := 47) C rfl (Or.inr rfl) dX3_takeSign_47 (by first | (rw [decide_eq_true (by omega)]; rfl) | (rw [decide_eq_false (by omega)]; rfl)) (by unfold oSg; first | (rw [if_pos (by omega), if_pos (by omega)]; done) | (rw [if_pos (by omega), if_neg (by omega)]; done) | (rw [if_neg (by omega)]; done))
    · refine M_iconst (pc := 38) C dX3_takeSign_38 ?_
      refine M_goto (pc := 39) C (tgt := 43) dX3_takeSign_39 (by decide) ?_
      refine A_putI (pc := 43) C fl_X3_11 rfl (by decide) (a := 69) rfl (tt_69 hT) (by omega) dX3_takeSign_43 ?_
      refine M.to (pc := 46) (v2 := sa v 69 (rs (rs D 1 c) 0 3)) ?_ rfl rfl (by rw [sa_up0])
      refine M_iconst (pc := 46) C dX3_takeSign_46 ?_
      exact M_zret (pc := 47) C rfl (Or.inr rfl) dX3_takeSign_47 (by first | (rw [decide_eq_true (by omega)]; rfl) | (rw [decide_eq_false (by omega)]; rfl)) (by unfold oSg; first | (rw [if_pos (by omega), if_pos (by omega)]; done) | (rw [if_pos (by omega), if_neg (by omega)]; done) | (rw [if_neg (by omega)]; done))
  · refine M_iload_n (pc := 6) C dX3_takeSign_6 rfl ?_
    refine M_bipush (pc := 7) C (by decide) dX3_takeSign_7 ?_
    refine M_icmp_eq (pc := 9) C (tgt := 26) (by omega) (by omega) dX3_takeSign_9 (by decide) (fun h_9 => ?_) (fun h_9 => ?_)
    · refine M_aload_n (pc := 26) C dX3_takeSign_26 rfl (by decide) ?_
      refine M_iload_n (pc := 27) C dX3_takeSign_27 rfl ?_
      refine A_putI (pc := 28) C fl_X3_15 rfl (by decide) (a := 69) rfl (tt_69 hT) (by omega) dX3_takeSign_28 ?_
      refine M.to (pc := 31) (v2 := sa v 69 (rs D 1 c)) ?_ rfl rfl (by rw [sa_up0])
      refine M_aload_n (pc := 31) C dX3_takeSign_31 rfl (by decide) ?_
      refine M_iload_n (pc := 32) C dX3_takeSign_32 rfl ?_
      refine M_bipush (pc := 33) C (by decide) dX3_takeSign_33 ?_
      refine M_icmp_ne (pc := 35) C (tgt := 42) (by omega) (by omega) dX3_takeSign_35 (by decide) (fun h_35 => ?_) (fun h_35 => ?_)
      · refine M_iconst (pc := 42) C dX3_takeSign_42 ?_
        refine A_putI (pc := 43) C fl_X3_11 rfl (by decide) (a := 69) rfl (tt_69 hT) (by omega) dX3_takeSign_43 ?_
        refine M.to (pc := 46) (v2 := sa v 69 (rs (rs D 1 c) 0 1)) ?_ rfl rfl (by rw [sa_up0])
        refine M_iconst (pc := 46) C dX3_takeSign_46 ?_
        exact M_zret (pc := 47) C rfl (Or.inr rfl) dX3_takeSign_47 (by first | (rw [decide_eq_true (by omega)]; rfl) | (rw [decide_eq_false (by omega)]; rfl)) (by unfold oSg; first | (rw [if_pos (by omega), if_pos (by omega)]; done) | (rw [if_pos (by omega), if_neg (by omega)]; done) | (rw [if_neg (by omega)]; done))
      · refine M_iconst (pc := 38) C dX3_takeSign_38 ?_
        refine M_goto (pc := 39) C (tgt := 43) dX3_takeSign_39 (by decide) ?_
        refine A_putI (pc := 43) C fl_X3_11 rfl (by decide) (a := 69) rfl (tt_69 hT) (by omega) dX3_takeSign_43 ?_
        refine M.to (pc := 46) (v2 := sa v 69 (rs (rs D 1 c) 0 3)) ?_ rfl rfl (by rw [sa_up0])
        refine M_iconst (pc := 46) C dX3_takeSign_46 ?_
        exact M_zret (pc := 47) C rfl (Or.inr rfl) dX3_takeSign_47 (by first | (rw [decide_eq_true (by omega)]; rfl) | (rw [decide_eq_false (by omega)]; rfl)) (by unfold oSg; first | (rw [if_pos (by omega), if_pos (by omega)]; done) | (rw [if_pos (by omega), if_neg (by omega)]; done) | (rw [if_neg (by omega)]; done))
    · refine M_iload_n (pc := 12) C dX3_takeSign_12 rfl ?_
      refine M_bipush (pc := 13) C (by decide) dX3_takeSign_13 ?_
      refine M_icmp_eq (pc := 15) C (tgt := 26) (by omega) (by omega) dX3_takeSign_15 (by decide) (fun h_15 => ?_) (fun h_15 => ?_)
      · refine M_aload_n (pc := 26) C dX3_takeSign_26 rfl (by decide) ?_
        refine M_iload_n (pc := 27) C dX3_takeSign_27 rfl ?_
        refine A_putI (pc := 28) C fl_X3_15 rfl (by decide) (a := 69) rfl (tt_69 hT) (by omega) dX3_takeSign_28 ?_
        refine M.to (pc := 31) (v2 := sa v 69 (rs D 1 c)) ?_ rfl rfl (by rw [sa_up0])
        refine M_aload_n (pc := 31) C dX3_takeSign_31 rfl (by decide) ?_
        refine M_iload_n (pc := 32) C dX3_takeSign_32 rfl ?_
        refine M_bipush (pc := 33) C (by decide) dX3_takeSign_33 ?_
        refine M_icmp_ne (pc := 35) C (tgt := 42) (by omega) (by omega) dX3_takeSign_35 (by decide) (fun h_35 => ?_) (fun h_35 => ?_)
        · refine M_iconst (pc := 42) C dX3_takeSign_42 ?_
          refine A_putI (pc := 43) C fl_X3_11 rfl (by decide) (a := 69) rfl (tt_69 hT) (by omega) dX3_takeSign_43 ?_
          refine M.to (pc := 46) (v2 := sa v 69 (rs (rs D 1 c) 0 1)) ?_ rfl rfl (by rw [sa_up0])
          refine M_iconst (pc := 46) C dX3_takeSign_46 ?_
          exact M_zret (pc := 47) C rfl (Or.inr rfl) dX3_takeSign_47 (by first | (rw [decide_eq_true (by omega)]; rfl) | (rw [decide_eq_false (by omega)]; rfl)) (by unfold oSg; first | (rw [if_pos (by omega), if_pos (by omega)]; done) | (rw [if_pos (by omega), if_neg (by omega)]; done) | (rw [if_neg (by omega)]; done))
        · refine M_iconst (pc := 38) C dX3_takeSign_38 ?_
          refine M_goto (pc := 39) C (tgt := 43) dX3_takeSign_39 (by decide) ?_
          refine A_putI (pc := 43) C fl_X3_11 rfl (by decide) (a := 69) rfl (tt_69 hT) (by omega) dX3_takeSign_43 ?_
          refine M.to (pc := 46) (v2 := sa v 69 (rs (rs D 1 c) 0 3)) ?_ rfl rfl (by rw [sa_up0])
          refine M_iconst (pc := 46) C dX3_takeSign_46 ?_
          exact M_zret (pc := 47) C rfl (Or.inr rfl) dX3_takeSign_47 (by first | (rw [decide_eq_true (by omega)]; rfl) | (rw [decide_eq_false (by omega)]; rfl)) (by unfold oSg; first | (rw [if_pos (by omega), if_pos (by omega)]; done) | (rw [if_pos (by omega), if_neg (by omega)]; done) | (rw [if_neg (by omega)]; done))
      · refine M_iload_n (pc := 18) C dX3_takeSign_18 rfl ?_
        refine M_bipush (pc := 19) C (by decide) dX3_takeSign_19 ?_
        refine M_icmp_eq (pc := 21) C (tgt := 26) (by omega) (by omega) dX3_takeSign_21 (by decide) (fun h_21 => ?_) (fun h_21 => ?_)
        · refine M_aload_n (pc := 26) C dX3_takeSign_26 rfl (by decide) ?_
          refine M_iload_n (pc := 27) C dX3_takeSign_27 rfl ?_
          refine A_putI (pc := 28) C fl_X3_15 rfl (by decide) (a := 69) rfl (tt_69 hT) (by omega) dX3_takeSign_28 ?_
          refine M.to (pc := 31) (v2 := sa v 69 (rs D 1 c)) ?_ rfl rfl (by rw [sa_up0])
          refine M_aload_n (pc := 31) C dX3_takeSign_31 rfl (by decide) ?_
          refine M_iload_n (pc := 32) C dX3_takeSign_32 rfl ?_
          refine M_bipush (pc := 33) C (by decide) dX3_takeSign_33 ?_
          refine M_icmp_ne (pc := 35) C (tgt := 42) (by omega) (by omega) dX3_takeSign_35 (by decide) (fun h_35 => ?_) (fun h_35 => ?_)
          · refine M_iconst (pc := 42) C dX3_takeSign_42 ?_
            refine A_putI (pc := 43) C fl_X3_11 rfl (by decide) (a := 69) rfl (tt_69 hT) (by omega) dX3_takeSign_43 ?_
            refine M.to (pc := 46) (v2 := sa v 69 (rs (rs D 1 c) 0 1)) ?_ rfl rfl (by rw [sa_up0])
            refine M_iconst (pc := 46) C dX3_takeSign_46 ?_
            exact M_zret (pc := 47) C rfl (Or.inr rfl) dX3_takeSign_47 (by first | (rw [decide_eq_true (by omega)]; rfl) | (rw [decide_eq_false (by omega)]; rfl)) (by unfold oSg; first | (rw [if_pos (by omega), if_pos (by omega)]; done) | (rw [if_pos (by omega), if_neg (by omega)]; done) | (rw [if_neg (by omega)]; done))
          · refine M_iconst (pc := 38) C dX3_takeSign_38 ?_
            refine M_goto (pc := 39) C (tgt := 43) dX3_takeSign_39 (by decide) ?_
            refine A_putI (pc := 43) C fl_X3_11 rfl (by decide) (a := 69) rfl (tt_69 hT) (by omega) dX3_takeSign_43 ?_
            refine M.to (pc := 46) (v2 := sa v 69 (rs (rs D 1 c) 0 3)) ?_ rfl rfl (by rw [sa_up0])
            refine M_iconst (pc := 46) C dX3_takeSign_46 ?_
            exact M_zret (pc := 47) C rfl (Or.inr rfl) dX3_takeSign_47 (by first | (rw [decide_eq_true (by omega)]; rfl) | (rw [decide_eq_false (by omega)]; rfl)) (by unfold oSg; first | (rw [if_pos (by omega), if_pos (by omega)]; done) | (rw [if_pos (by omega), if_neg (by omega)]; done) | (rw [if_neg (by omega)]; done))
        · refine M_iconst (pc := 24) C dX3_takeSign_24 ?_
          exact M_zret (pc := 25) C rfl (Or.inl rfl) dX3_takeSign_25 (by first | (rw [decide_eq_true (by omega)]; rfl) | (rw [decide_eq_false (by omega)]; rfl)) (by unfold oSg; first | (rw [if_pos (by omega), if_pos (by omega)]; done) | (rw [if_pos (by omega), if_neg (by omega)]; done) | (rw [if_neg (by omega)]; done))
theorem c_X3_takeFile {N : Nat} {T : Ty} {D : Nat → Int} {c : Int} {v : Ct} (hT : TT T) (hc : i32 c) : Runs mX3_takeFile 1 0 0 [vR 69, vI c] N T (sa v 69 D) (some (vI (Bi (decide (48 ≤ c ∧ c ≤ 57))))) N T (sa v 69 (oFl D c)) := by
  refine Runs.of (by decide) (Nat.le_of_ble_eq_true rfl) fun κ C => ?_
  refine M_iload_n (pc := 0) C dX3_takeFile_0 rfl ?_
  refine A_cS (pc := 1) C (x := vI (Bi (decide (48 ≤ c ∧ c ≤ 57)))) (c_X3_isDigit hT (c := c) (by omega)) yw_X3_isDigit lk_X3_59 rfl dX3_takeFile_1 rfl (Nat.le_of_ble_eq_true rfl) (by decide) ⟨Nat.le_refl _, Nat.le_refl _⟩ ?_
  refine M_if_ne (pc := 4) C (tgt := 9) (Bi_i32 _) dX3_takeFile_4 (by decide) (fun h_4 => ?_) (fun h_4 => ?_)
  · have b_4 := Bid_ne0 h_4
    refine M_aload_n (pc := 9) C dX3_takeFile_9 rfl (by decide) ?_
    refine M_iload_n (pc := 10) C dX3_takeFile_10 rfl ?_
    refine M_bipush (pc := 11) C (by decide) dX3_takeFile_11 ?_
    refine M_isub (pc := 13) C dX3_takeFile_13 ?_
    refine A_putI (pc := 14) C fl_X3_18 rfl (by decide) (a := 69) rfl (tt_69 hT) (by omega) dX3_takeFile_14 ?_
    refine M.to (pc := 17) (v2 := sa v 69 (rs D 2 (c - 48))) ?_ rfl rfl (by rw [sa_up0])
    refine M_aload_n (pc := 17) C dX3_takeFile_17 rfl (by decide) ?_
    refine M_aload_n (pc := 18) C dX3_takeFile_18 rfl (by decide) ?_
    refine A_getI (pc := 19) C fl_X3_15 rfl (a := 69) rfl (tt_69 hT) dX3_takeFile_19 (fun (r_19 : i32 ((rs D 2 (c - 48)) 1)) => ?_)
    refine M.to (pc := 22) (st2 := [vI ((rs D 2 (c - 48)) 1), vR 69]) ?_ rfl rfl rfl
    refine M.to (st2 := [vI (D 1), vR 69]) ?_ rfl (by rw [rs_ne (by decide)]) rfl
    have r_22 : i32 (D 1) := by rw [← rs_ne (R := D) (i := 2) (j := 1) (by decide) (c - 48)]; exact r_19
    refine M_bipush (pc := 22) C (by decide) dX3_takeFile_22 ?_
    refine M_icmp_ne (pc := 24) C (tgt := 31) (by omega) (by omega) dX3_takeFile_24 (by decide) (fun h_24 => ?_) (fun h_24 => ?_)
    · refine M_iconst (pc := 31) C dX3_takeFile_31 ?_
      refine A_putI (pc := 32) C fl_X3_11 rfl (by decide) (a := 69) rfl (tt_69 hT) (by omega) dX3_takeFile_32 ?_
      refine M.to (pc := 35) (v2 := sa v 69 (rs (rs D 2 (c - 48)) 0 2)) ?_ rfl rfl (by rw [sa_up0])
      refine M_iconst (pc := 35) C dX3_takeFile_35 ?_
      exact M_zret (pc := 36) C rfl (Or.inr rfl) dX3_takeFile_36 (by first | (rw [decide_eq_true (by omega)]; rfl) | (rw [decide_eq_false (by omega)]; rfl)) (by unfold oFl; first | (rw [if_pos (by omega), if_pos (by omega)]; done) | (rw [if_pos (by omega), if_neg (by omega)]; done) | (rw [if_neg (by omega)]; done))
    · refine M_iconst (pc := 27) C dX3_takeFile_27 ?_
      refine M_goto (pc := 28) C (tgt := 32) dX3_takeFile_28 (by decide) ?_
      refine A_putI (pc := 32) C fl_X3_11 rfl (by decide) (a := 69) rfl (tt_69 hT) (by omega) dX3_takeFile_32 ?_
      refine M.to (pc := 35) (v2 := sa v 69 (rs (rs D 2 (c - 48)) 0 5)) ?_ rfl rfl (by rw [sa_up0])
      refine M_iconst (pc := 35) C dX3_takeFile_35 ?_
      exact M_zret (pc := 36) C rfl (Or.inr rfl) dX3_takeFile_36 (by first | (rw [decide_eq_true (by omega)]; rfl) | (rw [decide_eq_false (by omega)]; rfl)) (by unfold oFl; first | (rw [if_pos (by omega), if_pos (by omega)]; done) | (rw [if_pos (by omega), if_neg (by omega)]; done) | (rw [if_neg (by omega)]; done))
  · have b_4 := Bid_eq0 h_4
    refine M_iconst (pc := 7) C dX3_takeFile_7 ?_
    exact M_zret (pc := 8) C rfl (Or.inl rfl) dX3_takeFile_8 (by first | (rw [decide_eq_true (by omega)]; rfl) | (rw [decide_eq_false (by omega)]; rfl)) (by unfold oFl; first | (rw [if_pos (by omega), if_pos (by omega)]; done) | (rw [if_pos (by omega), if_neg (by omega)]; done) | (rw [if_neg (by omega)]; done))
theorem c_X3_takeColon {N : Nat} {T : Ty} {D : Nat → Int} {c : Int} {v : Ct} (hT : TT T) (hc : i32 c) : Runs mX3_takeColon 0 0 0 [vR 69, vI c] N T (sa v 69 D) (some (vI (Bi (decide (c = 58))))) N T (sa v 69 (oCl D c)) := by
  refine Runs.of (by decide) (Nat.le_of_ble_eq_true rfl) fun κ C => ?_
  refine M_iload_n (pc := 0) C dX3_takeColon_0 rfl ?_
  refine M_bipush (pc := 1) C (by decide) dX3_takeColon_1 ?_
  refine M_icmp_eq (pc := 3) C (tgt := 8) (by omega) (by omega) dX3_takeColon_3 (by decide) (fun h_3 => ?_) (fun h_3 => ?_)
  · refine M_aload_n (pc := 8) C dX3_takeColon_8 rfl (by decide) ?_
    refine M_iconst (pc := 9) C dX3_takeColon_9 ?_
    refine A_putI (pc := 10) C fl_X3_11 rfl (by decide) (a := 69) rfl (tt_69 hT) (by omega) dX3_takeColon_10 ?_
    refine M.to (pc := 13) (v2 := sa v 69 (rs D 0 3)) ?_ rfl rfl (by rw [sa_up0])
    refine M_iconst (pc := 13) C dX3_takeColon_13 ?_
    exact M_zret (pc := 14) C rfl (Or.inr rfl) dX3_takeColon_14 (by first | (rw [decide_eq_true (by omega)]; rfl) | (rw [decide_eq_false (by omega)]; rfl)) (by unfold oCl; first | (rw [if_pos (by omega)]; done) | (rw [if_neg (by omega)]; done))
  · refine M_iconst (pc := 6) C dX3_takeColon_6 ?_
    exact M_zret (pc := 7) C rfl (Or.inl rfl) dX3_takeColon_7 (by first | (rw [decide_eq_true (by omega)]; rfl) | (rw [decide_eq_false (by omega)]; rfl)) (by unfold oCl; first | (rw [if_pos (by omega)]; done) | (rw [if_neg (by omega)]; done))
theorem c_X3_takeFirstDigit {N : Nat} {T : Ty} {D : Nat → Int} {c : Int} {v : Ct} (hT : TT T) (hc : i32 c) : Runs mX3_takeFirstDigit 1 0 0 [vR 69, vI c] N T (sa v 69 D) (some (vI (Bi (decide ((48 ≤ c ∧ c ≤ 57) ∧ ¬ (c = 48 ∧ D 1 ≠ 43)))))) N T (sa v 69 (oFd D c)) := by
  refine Runs.of (by decide) (Nat.le_of_ble_eq_true rfl) fun κ C => ?_
  refine M_iload_n (pc := 0) C dX3_takeFirstDigit_0 rfl ?_
  refine A_cS (pc := 1) C (x := vI (Bi (decide (48 ≤ c ∧ c ≤ 57)))) (c_X3_isDigit hT (c := c) (by omega)) yw_X3_isDigit lk_X3_59 rfl dX3_takeFirstDigit_1 rfl (Nat.le_of_ble_eq_true rfl) (by decide) ⟨Nat.le_refl _, Nat.le_refl _⟩ ?_
  refine M_if_eq (pc := 4) C (tgt := 22) (Bi_i32 _) dX3_takeFirstDigit_4 (by decide) (fun h_4 => ?_) (fun h_4 => ?_)
  · have b_4 := Bid_eq0 h_4
    refine M_iconst (pc := 22) C dX3_takeFirstDigit_22 ?_
    exact M_zret (pc := 23) C rfl (Or.inl rfl) dX3_takeFirstDigit_23 (by first | (rw [decide_eq_true (by omega)]; rfl) | (rw [decide_eq_false (by omega)]; rfl)) (by unfold oFd; first | (rw [if_pos (by omega)]; done) | (rw [if_neg (by omega)]; done))
  · have b_4 := Bid_ne0 h_4
    refine M_iload_n (pc := 7) C dX3_takeFirstDigit_7 rfl ?_
    refine M_bipush (pc := 8) C (by decide) dX3_takeFirstDigit_8 ?_
    refine M_icmp_ne (pc := 10) C (tgt := 24) (by omega) (by omega) dX3_takeFirstDigit_10 (by decide) (fun h_10 => ?_) (fun h_10 => ?_)
    · refine M_aload_n (pc := 24) C dX3_takeFirstDigit_24 rfl (by decide) ?_
      refine M_iload_n (pc := 25) C dX3_takeFirstDigit_25 rfl ?_
      refine M_bipush (pc := 26) C (by decide) dX3_takeFirstDigit_26 ?_
      refine M_isub (pc := 28) C dX3_takeFirstDigit_28 ?_
      refine A_putI (pc := 29) C fl_X3_21 rfl (by decide) (a := 69) rfl (tt_69 hT) (by omega) dX3_takeFirstDigit_29 ?_
      refine M.to (pc := 32) (v2 := sa v 69 (rs D 3 (c - 48))) ?_ rfl rfl (by rw [sa_up0])
      refine M_aload_n (pc := 32) C dX3_takeFirstDigit_32 rfl (by decide) ?_
      refine M_iconst (pc := 33) C dX3_takeFirstDigit_33 ?_
      refine A_putI (pc := 34) C fl_X3_11 rfl (by decide) (a := 69) rfl (tt_69 hT) (by omega) dX3_takeFirstDigit_34 ?_
      refine M.to (pc := 37) (v2 := sa v 69 (rs (rs D 3 (c - 48)) 0 4)) ?_ rfl rfl (by rw [sa_up0])
      refine M_iconst (pc := 37) C dX3_takeFirstDigit_37 ?_
      exact M_zret (pc := 38) C rfl (Or.inr rfl) dX3_takeFirstDigit_38 (by first | (rw [decide_eq_true (by omega)]; rfl) | (rw [decide_eq_false (by omega)]; rfl)) (by unfold oFd; first | (rw [if_pos (by omega)]; done) | (rw [if_neg (by omega)]; done))
    · refine M_aload_n (pc := 13) C dX3_takeFirstDigit_13 rfl (by decide) ?_
      refine A_getI (pc := 14) C fl_X3_15 rfl (a := 69) rfl (tt_69 hT) dX3_takeFirstDigit_14 (fun (r_14 : i32 (D 1)) => ?_)
      refine M.to (pc := 17) (st2 := [vI (D 1)]) ?_ rfl rfl rfl
      refine M_bipush (pc := 17) C (by decide) dX3_takeFirstDigit_17 ?_
      refine M_icmp_eq (pc := 19) C (tgt := 24) (by omega) (by omega) dX3_takeFirstDigit_19 (by decide) (fun h_19 => ?_) (fun h_19 => ?_)
      · refine M_aload_n (pc := 24) C dX3_takeFirstDigit_24 rfl (by decide) ?_
        refine M_iload_n (pc := 25) C dX3_takeFirstDigit_25 rfl ?_
        refine M_bipush (pc := 26) C (by decide) dX3_takeFirstDigit_26 ?_
        refine M_isub (pc := 28) C dX3_takeFirstDigit_28 ?_
        refine A_putI (pc := 29) C fl_X3_21 rfl (by decide) (a := 69) rfl (tt_69 hT) (by omega) dX3_takeFirstDigit_29 ?_
        refine M.to (pc := 32) (v2 := sa v 69 (rs D 3 (c - 48))) ?_ rfl rfl (by rw [sa_up0])
        refine M_aload_n (pc := 32) C dX3_takeFirstDigit_32 rfl (by decide) ?_
        refine M_iconst (pc := 33) C dX3_takeFirstDigit_33 ?_
        refine A_putI (pc := 34) C fl_X3_11 rfl (by decide) (a := 69) rfl (tt_69 hT) (by omega) dX3_takeFirstDigit_34 ?_
        refine M.to (pc := 37) (v2 := sa v 69 (rs (rs D 3 (c - 48)) 0 4)) ?_ rfl rfl (by rw [sa_up0])
        refine M_iconst (pc := 37) C dX3_takeFirstDigit_37 ?_
        exact M_zret (pc := 38) C rfl (Or.inr rfl) dX3_takeFirstDigit_38 (by first | (rw [decide_eq_true (by omega)]; rfl) | (rw [decide_eq_false (by omega)]; rfl)) (by unfold oFd; first | (rw [if_pos (by omega)]; done) | (rw [if_neg (by omega)]; done))
      · refine M_iconst (pc := 22) C dX3_takeFirstDigit_22 ?_
        exact M_zret (pc := 23) C rfl (Or.inl rfl) dX3_takeFirstDigit_23 (by first | (rw [decide_eq_true (by omega)]; rfl) | (rw [decide_eq_false (by omega)]; rfl)) (by unfold oFd; first | (rw [if_pos (by omega)]; done) | (rw [if_neg (by omega)]; done))
theorem c_X3_takeDigit {N : Nat} {T : Ty} {D : Nat → Int} {c : Int} {v : Ct} (hT : TT T) (hc : i32 c) (hn : 0 ≤ D 3 ∧ D 3 ≤ 200) : Runs mX3_takeDigit 1 0 0 [vR 69, vI c] N T (sa v 69 D) (some (vI (Bi (decide ((48 ≤ c ∧ c ≤ 57) ∧ D 3 ≠ 0 ∧ 10 * D 3 + c - 48 ≤ 200))))) N T (sa v 69 (oDg D c)) := by
  refine Runs.of (by decide) (Nat.le_of_ble_eq_true rfl) fun κ C => ?_
  refine M_iload_n (pc := 0) C dX3_takeDigit_0 rfl ?_
  refine A_cS (pc := 1) C (x := vI (Bi (decide (48 ≤ c ∧ c ≤ 57)))) (c_X3_isDigit hT (c := c) (by omega)) yw_X3_isDigit lk_X3_59 rfl dX3_takeDigit_1 rfl (Nat.le_of_ble_eq_true rfl) (by decide) ⟨Nat.le_refl _, Nat.le_refl _⟩ ?_
  refine M_if_eq (pc := 4) C (tgt := 32) (Bi_i32 _) dX3_takeDigit_4 (by decide) (fun h_4 => ?_) (fun h_4 => ?_)
  · have b_4 := Bid_eq0 h_4
    refine M_iconst (pc := 32) C dX3_takeDigit_32 ?_
    exact M_zret (pc := 33) C rfl (Or.inl rfl) dX3_takeDigit_33 (by first | (rw [decide_eq_true (by omega)]; rfl) | (rw [decide_eq_false (by omega)]; rfl)) (by unfold oDg; first | (rw [if_pos (by omega)]; done) | (rw [if_neg (by omega)]; done))
  · have b_4 := Bid_ne0 h_4
    refine M_aload_n (pc := 7) C dX3_takeDigit_7 rfl (by decide) ?_
    refine A_getI (pc := 8) C fl_X3_21 rfl (a := 69) rfl (tt_69 hT) dX3_takeDigit_8 (fun (r_8 : i32 (D 3)) => ?_)
    refine M.to (pc := 11) (st2 := [vI (D 3)]) ?_ rfl rfl rfl
    refine M_if_eq (pc := 11) C (tgt := 32) (by omega) dX3_takeDigit_11 (by decide) (fun h_11 => ?_) (fun h_11 => ?_)
    · refine M_iconst (pc := 32) C dX3_takeDigit_32 ?_
      exact M_zret (pc := 33) C rfl (Or.inl rfl) dX3_takeDigit_33 (by first | (rw [decide_eq_true (by omega)]; rfl) | (rw [decide_eq_false (by omega)]; rfl)) (by unfold oDg; first | (rw [if_pos (by omega)]; done) | (rw [if_neg (by omega)]; done))
    · refine M_bipush (pc := 14) C (by decide) dX3_takeDigit_14 ?_
      refine M_aload_n (pc := 16) C dX3_takeDigit_16 rfl (by decide) ?_
      refine A_getI (pc := 17) C fl_X3_21 rfl (a := 69) rfl (tt_69 hT) dX3_takeDigit_17 (fun (r_17 : i32 (D 3)) => ?_)
      refine M.to (pc := 20) (st2 := [vI (D 3), vI 10]) ?_ rfl rfl rfl
      refine M_imul (pc := 20) C dX3_takeDigit_20 ?_
      refine M_iload_n (pc := 21) C dX3_takeDigit_21 rfl ?_
      refine M_iadd (pc := 22) C dX3_takeDigit_22 ?_
      refine M_bipush (pc := 23) C (by decide) dX3_takeDigit_23 ?_
      refine M_isub (pc := 25) C dX3_takeDigit_25 ?_
      refine M_sipush (pc := 26) C (by decide) dX3_takeDigit_26 ?_
      refine M_icmp_le (pc := 29) C (tgt := 34) (by omega) (by omega) dX3_takeDigit_29 (by decide) (fun h_29 => ?_) (fun h_29 => ?_)
      · refine M_aload_n (pc := 34) C dX3_takeDigit_34 rfl (by decide) ?_
        refine M_bipush (pc := 35) C (by decide) dX3_takeDigit_35 ?_
        refine M_aload_n (pc := 37) C dX3_takeDigit_37 rfl (by decide) ?_
        refine A_getI (pc := 38) C fl_X3_21 rfl (a := 69) rfl (tt_69 hT) dX3_takeDigit_38 (fun (r_38 : i32 (D 3)) => ?_)
        refine M.to (pc := 41) (st2 := [vI (D 3), vI 10, vR 69]) ?_ rfl rfl rfl
        refine M_imul (pc := 41) C dX3_takeDigit_41 ?_
        refine M_iload_n (pc := 42) C dX3_takeDigit_42 rfl ?_
        refine M_iadd (pc := 43) C dX3_takeDigit_43 ?_
        refine M_bipush (pc := 44) C (by decide) dX3_takeDigit_44 ?_
        refine M_isub (pc := 46) C dX3_takeDigit_46 ?_
        refine A_putI (pc := 47) C fl_X3_21 rfl (by decide) (a := 69) rfl (tt_69 hT) (by omega) dX3_takeDigit_47 ?_
        refine M.to (pc := 50) (v2 := sa v 69 (rs D 3 (((10 * (D 3)) + c) - 48))) ?_ rfl rfl (by rw [sa_up0])
        refine M_iconst (pc := 50) C dX3_takeDigit_50 ?_
        exact M_zret (pc := 51) C rfl (Or.inr rfl) dX3_takeDigit_51 (by first | (rw [decide_eq_true (by omega)]; rfl) | (rw [decide_eq_false (by omega)]; rfl)) (by unfold oDg; first | (rw [if_pos (by omega)]; done) | (rw [if_neg (by omega)]; done))
      · refine M_iconst (pc := 32) C dX3_takeDigit_32 ?_
        exact M_zret (pc := 33) C rfl (Or.inl rfl) dX3_takeDigit_33 (by first | (rw [decide_eq_true (by omega)]; rfl) | (rw [decide_eq_false (by omega)]; rfl)) (by unfold oDg; first | (rw [if_pos (by omega)]; done) | (rw [if_neg (by omega)]; done))
theorem c_X3_takeSemicolon {N : Nat} {T : Ty} {D : Nat → Int} {c : Int} {v : Ct} (hT : TT T) (hc : i32 c) : Runs mX3_takeSemicolon 0 0 0 [vR 69, vI c] N T (sa v 69 D) (some (vI (Bi (decide (c = 59))))) N T (sa v 69 (oSc D c)) := by
  refine Runs.of (by decide) (Nat.le_of_ble_eq_true rfl) fun κ C => ?_
  refine M_iload_n (pc := 0) C dX3_takeSemicolon_0 rfl ?_
  refine M_bipush (pc := 1) C (by decide) dX3_takeSemicolon_1 ?_
  refine M_icmp_eq (pc := 3) C (tgt := 8) (by omega) (by omega) dX3_takeSemicolon_3 (by decide) (fun h_3 => ?_) (fun h_3 => ?_)
  · refine M_aload_n (pc := 8) C dX3_takeSemicolon_8 rfl (by decide) ?_
    refine M_iconst (pc := 9) C dX3_takeSemicolon_9 ?_
    refine A_putI (pc := 10) C fl_X3_11 rfl (by decide) (a := 69) rfl (tt_69 hT) (by omega) dX3_takeSemicolon_10 ?_
    refine M.to (pc := 13) (v2 := sa v 69 (rs D 0 0)) ?_ rfl rfl (by rw [sa_up0])
    refine M_iconst (pc := 13) C dX3_takeSemicolon_13 ?_
    exact M_zret (pc := 14) C rfl (Or.inr rfl) dX3_takeSemicolon_14 (by first | (rw [decide_eq_true (by omega)]; rfl) | (rw [decide_eq_false (by omega)]; rfl)) (by unfold oSc; first | (rw [if_pos (by omega)]; done) | (rw [if_neg (by omega)]; done))
  · refine M_iconst (pc := 6) C dX3_takeSemicolon_6 ?_
    exact M_zret (pc := 7) C rfl (Or.inl rfl) dX3_takeSemicolon_7 (by first | (rw [decide_eq_true (by omega)]; rfl) | (rw [decide_eq_false (by omega)]; rfl)) (by unfold oSc; first | (rw [if_pos (by omega)]; done) | (rw [if_neg (by omega)]; done))
theorem c_X3_take {N : Nat} {T : Ty} {D : Nat → Int} {c : Int} {d : Nat} {v : Ct} (hT : TT T) (hc : i32 c) (hd : D 0 = (d : Int)) (hd6 : d < 6) (hn4 : d = 4 → 0 ≤ D 3 ∧ D 3 ≤ 200) : Runs mX3_take 2 0 0 [vR 69, vI c] N T (sa v 69 D) (some (vI (Bi (oTb D d c)))) N T (sa v 69 (oTd D d c)) := by
  refine Runs.of (by decide) (Nat.le_of_ble_eq_true rfl) fun κ C => ?_
  refine M_aload_n (pc := 0) C dX3_take_0 rfl (by decide) ?_
  refine A_getI (pc := 1) C fl_X3_11 rfl (a := 69) rfl (tt_69 hT) dX3_take_1 (fun (r_1 : i32 (D 0)) => ?_)
  refine M.to (pc := 4) (st2 := [vI (D 0)]) ?_ rfl rfl rfl
  refine M.to (st2 := [vI ((d : Nat) : Int)]) ?_ rfl (by rw [hd]) rfl
  rcases (show d = 0 ∨ d = 1 ∨ d = 2 ∨ d = 3 ∨ d = 4 ∨ d = 5 by omega) with rfl | rfl | rfl | rfl | rfl | rfl
  · refine M_tableIn (pc := 4) C (x := ((0 : Nat) : Int)) (off := 36) (tgt := 40) (by decide) (by decide) rfl dX3_take_4 (by decide) ?_
    refine M_aload_n (pc := 40) C dX3_take_40 rfl (by decide) ?_
    refine M_iload_n (pc := 41) C dX3_take_41 rfl ?_
    refine A_cV (pc := 42) C (x := vI (Bi (decide (c = 43 ∨ c = 45 ∨ c = 60 ∨ c = 62)))) (a := 69) (c := 3) (c_X3_takeSign hT (v := v) (D := D) (c := c) (by omega)) yw_X3_takeSign lk_X3_41 rfl (congrArg Prod.fst (tt_69 hT)) hc_3 rfl dX3_take_42 rfl (Nat.le_of_ble_eq_true rfl) (by decide) ⟨Nat.le_refl _, Nat.le_refl _⟩ ?_
    exact M_zret (pc := 45) C rfl (Bi_01 _) dX3_take_45 rfl rfl
  · refine M_tableIn (pc := 4) C (x := ((1 : Nat) : Int)) (off := 42) (tgt := 46) (by decide) (by decide) rfl dX3_take_4 (by decide) ?_
    refine M_aload_n (pc := 46) C dX3_take_46 rfl (by decide) ?_
    refine M_iload_n (pc := 47) C dX3_take_47 rfl ?_
    refine A_cV (pc := 48) C (x := vI (Bi (decide (48 ≤ c ∧ c ≤ 57)))) (a := 69) (c := 3) (c_X3_takeFile hT (v := v) (D := D) (c := c) (by omega)) yw_X3_takeFile lk_X3_44 rfl (congrArg Prod.fst (tt_69 hT)) hc_3 rfl dX3_take_48 rfl (Nat.le_of_ble_eq_true rfl) (by decide) ⟨Nat.le_refl _, Nat.le_refl _⟩ ?_
    exact M_zret (pc := 51) C rfl (Bi_01 _) dX3_take_51 rfl rfl
  · refine M_tableIn (pc := 4) C (x := ((2 : Nat) : Int)) (off := 48) (tgt := 52) (by decide) (by decide) rfl dX3_take_4 (by decide) ?_
    refine M_aload_n (pc := 52) C dX3_take_52 rfl (by decide) ?_
    refine M_iload_n (pc := 53) C dX3_take_53 rfl ?_
    refine A_cV (pc := 54) C (x := vI (Bi (decide (c = 58)))) (a := 69) (c := 3) (c_X3_takeColon hT (v := v) (D := D) (c := c) (by omega)) yw_X3_takeColon lk_X3_47 rfl (congrArg Prod.fst (tt_69 hT)) hc_3 rfl dX3_take_54 rfl (Nat.le_of_ble_eq_true rfl) (by decide) ⟨Nat.le_refl _, Nat.le_refl _⟩ ?_
    exact M_zret (pc := 57) C rfl (Bi_01 _) dX3_take_57 rfl rfl
  · refine M_tableIn (pc := 4) C (x := ((3 : Nat) : Int)) (off := 54) (tgt := 58) (by decide) (by decide) rfl dX3_take_4 (by decide) ?_
    refine M_aload_n (pc := 58) C dX3_take_58 rfl (by decide) ?_
    refine M_iload_n (pc := 59) C dX3_take_59 rfl ?_
    refine A_cV (pc := 60) C (x := vI (Bi (decide ((48 ≤ c ∧ c ≤ 57) ∧ ¬ (c = 48 ∧ D 1 ≠ 43))))) (a := 69) (c := 3) (c_X3_takeFirstDigit hT (v := v) (D := D) (c := c) (by omega)) yw_X3_takeFirstDigit lk_X3_50 rfl (congrArg Prod.fst (tt_69 hT)) hc_3 rfl dX3_take_60 rfl (Nat.le_of_ble_eq_true rfl) (by decide) ⟨Nat.le_refl _, Nat.le_refl _⟩ ?_
    exact M_zret (pc := 63) C rfl (Bi_01 _) dX3_take_63 rfl rfl
  · refine M_tableIn (pc := 4) C (x := ((4 : Nat) : Int)) (off := 60) (tgt := 64) (by decide) (by decide) rfl dX3_take_4 (by decide) ?_
    refine M_iload_n (pc := 64) C dX3_take_64 rfl ?_
    refine M_bipush (pc := 65) C (by decide) dX3_take_65 ?_
    refine M_icmp_ne (pc := 67) C (tgt := 78) (by omega) (by omega) dX3_take_67 (by decide) (fun h_67 => ?_) (fun h_67 => ?_)
    · have hn := hn4 rfl
      refine M_aload_n (pc := 78) C dX3_take_78 rfl (by decide) ?_
      refine M_iload_n (pc := 79) C dX3_take_79 rfl ?_
      refine A_cV (pc := 80) C (x := vI (Bi (decide ((48 ≤ c ∧ c ≤ 57) ∧ D 3 ≠ 0 ∧ 10 * D 3 + c - 48 ≤ 200)))) (a := 69) (c := 3) (c_X3_takeDigit hT (v := v) (D := D) (c := c) (by omega) hn) yw_X3_takeDigit lk_X3_56 rfl (congrArg Prod.fst (tt_69 hT)) hc_3 rfl dX3_take_80 rfl (Nat.le_of_ble_eq_true rfl) (by decide) ⟨Nat.le_refl _, Nat.le_refl _⟩ ?_
      exact M_zret (pc := 83) C rfl (Bi_01 _) dX3_take_83 (by first | (rw [show oTb D 4 c = true from if_pos h_67, decide_eq_true h_67]; done) | (rw [show oTb D 4 c = _ from if_neg h_67]; done)) (by first | (rw [show oTd D 4 c = rs D 0 0 from if_pos h_67, show oSc D c = rs D 0 0 from if_pos h_67]; done) | (rw [show oTd D 4 c = oDg D c from if_neg h_67]; done))
    · refine M_aload_n (pc := 70) C dX3_take_70 rfl (by decide) ?_
      refine M_iload_n (pc := 71) C dX3_take_71 rfl ?_
      refine A_cV (pc := 72) C (x := vI (Bi (decide (c = 59)))) (a := 69) (c := 3) (c_X3_takeSemicolon hT (v := v) (D := D) (c := c) (by omega)) yw_X3_takeSemicolon lk_X3_53 rfl (congrArg Prod.fst (tt_69 hT)) hc_3 rfl dX3_take_72 rfl (Nat.le_of_ble_eq_true rfl) (by decide) ⟨Nat.le_refl _, Nat.le_refl _⟩ ?_
      refine M_goto (pc := 75) C (tgt := 83) dX3_take_75 (by decide) ?_
      exact M_zret (pc := 83) C rfl (Bi_01 _) dX3_take_83 (by first | (rw [show oTb D 4 c = true from if_pos h_67, decide_eq_true h_67]; done) | (rw [show oTb D 4 c = _ from if_neg h_67]; done)) (by first | (rw [show oTd D 4 c = rs D 0 0 from if_pos h_67, show oSc D c = rs D 0 0 from if_pos h_67]; done) | (rw [show oTd D 4 c = oDg D c from if_neg h_67]; done))
  · refine M_tableOut (pc := 4) C (x := ((5 : Nat) : Int)) (tgt := 84) (by decide) (by decide) dX3_take_4 (by decide) ?_
    refine M_aload_n (pc := 84) C dX3_take_84 rfl (by decide) ?_
    refine M_iload_n (pc := 85) C dX3_take_85 rfl ?_
    refine A_cV (pc := 86) C (x := vI (Bi (decide (c = 59)))) (a := 69) (c := 3) (c_X3_takeSemicolon hT (v := v) (D := D) (c := c) (by omega)) yw_X3_takeSemicolon lk_X3_53 rfl (congrArg Prod.fst (tt_69 hT)) hc_3 rfl dX3_take_86 rfl (Nat.le_of_ble_eq_true rfl) (by decide) ⟨Nat.le_refl _, Nat.le_refl _⟩ ?_
    exact M_zret (pc := 89) C rfl (Bi_01 _) dX3_take_89 rfl rfl
theorem c_X3_canEndHere {N : Nat} {T : Ty} {v : Ct} (hT : TT T)  : Runs mX3_canEndHere 0 0 0 [vR 69] N T v (some (vI (Bi (decide (v 69 0 = 4 ∨ v 69 0 = 5))))) N T v := by
  refine Runs.of (by decide) (Nat.le_of_ble_eq_true rfl) fun κ C => ?_
  refine M_aload_n (pc := 0) C dX3_canEndHere_0 rfl (by decide) ?_
  refine A_getI (pc := 1) C fl_X3_11 rfl (a := 69) rfl (tt_69 hT) dX3_canEndHere_1 (fun (r_1 : i32 (v 69 0)) => ?_)
  refine M_iconst (pc := 4) C dX3_canEndHere_4 ?_
  refine M_icmp_eq (pc := 5) C (tgt := 16) (by omega) (by omega) dX3_canEndHere_5 (by decide) (fun h_5 => ?_) (fun h_5 => ?_)
  · refine M_iconst (pc := 16) C dX3_canEndHere_16 ?_
    refine M_goto (pc := 17) C (tgt := 21) dX3_canEndHere_17 (by decide) ?_
    exact M_zret (pc := 21) C rfl (Or.inr rfl) dX3_canEndHere_21 (by first | (rw [decide_eq_true (p := v 69 0 = 4 ∨ v 69 0 = 5) (Or.inl h_5)]; rfl) | exact congrArg (fun b => vI (Bi b)) (decide_eq_decide.mpr (by omega))) rfl
  · refine M_aload_n (pc := 8) C dX3_canEndHere_8 rfl (by decide) ?_
    refine A_getI (pc := 9) C fl_X3_11 rfl (a := 69) rfl (tt_69 hT) dX3_canEndHere_9 (fun (r_9 : i32 (v 69 0)) => ?_)
    refine M_iconst (pc := 12) C dX3_canEndHere_12 ?_
    refine T_icmp_ne (pc := 13) C (by omega) (by omega) dX3_canEndHere_13 dX3_canEndHere_16 dX3_canEndHere_17 dX3_canEndHere_20 ?_
    exact M_zret (pc := 21) C rfl (Bi_01 _) dX3_canEndHere_21 (by first | (rw [decide_eq_true (p := v 69 0 = 4 ∨ v 69 0 = 5) (Or.inl h_5)]; rfl) | exact congrArg (fun b => vI (Bi b)) (decide_eq_decide.mpr (by omega))) rfl
