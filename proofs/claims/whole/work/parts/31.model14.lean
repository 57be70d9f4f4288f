theorem c_X8_sees {N : Nat} {T : Ty} {H G : Nat → Int} {n p : Nat} {a b : Int} {v : Ct} (hT : TT T) (hl : G 7 = (n : Int)) (hn : n ≤ 60) (hp : p ≤ n) (ha : i32 a) (hb : i32 b) : Runs mX8_sees 1 0 0 [vR 84, vI a, vI b] N T (sa (sa v 91 H) 84 (rs G 8 ((p : Nat) : Int))) (some (vI (Bi (pSee (v 90) n p a b)))) N T (sa (sa v 91 H) 84 (rs G 8 ((p : Nat) : Int))) := by
  refine Runs.of (by decide) (Nat.le_of_ble_eq_true rfl) fun κ C => ?_
  refine M_aload_n (pc := 0) C dX8_sees_0 rfl (by decide) ?_
  refine A_getI (pc := 1) C fl_X8_167 rfl (a := 84) rfl (tt_84 hT) dX8_sees_1 (fun (r_1 : i32 ((rs G 8 ((p : Nat) : Int)) 8)) => ?_)
  refine M.to (pc := 4) (st2 := [vI ((rs G 8 ((p : Nat) : Int)) 8)]) ?_ rfl rfl rfl
  refine M.to (pc := 4) (st2 := [vI ((p : Nat) : Int)]) ?_ rfl (by rw [rs_eq]) rfl
  refine M_aload_n (pc := 4) C dX8_sees_4 rfl (by decide) ?_
  refine A_getI (pc := 5) C fl_X8_164 rfl (a := 84) rfl (tt_84 hT) dX8_sees_5 (fun (r_5 : i32 ((rs G 8 ((p : Nat) : Int)) 7)) => ?_)
  refine M.to (pc := 8) (st2 := [vI ((rs G 8 ((p : Nat) : Int)) 7), vI ((p : Nat) : Int)]) ?_ rfl rfl rfl
  refine M.to (pc := 8) (st2 := [vI ((n : Nat) : Int), vI ((p : Nat) : Int)]) ?_ rfl (by rw [rs_ne (by decide), hl]) rfl
  refine M_icmp_ge (pc := 8) C (tgt := 32) (by omega) (by omega) dX8_sees_8 (by decide) (fun h_8 => ?_) (fun h_8 => ?_)
  · refine M_iconst (pc := 32) C dX8_sees_32 ?_
    exact M_zret (pc := 33) C rfl (Or.inl rfl) dX8_sees_33 (by first | (rw [pSee_no (by omega)]; rfl) | (rw [pSee_yes (by omega)])) rfl
  · refine M_aload_n (pc := 11) C dX8_sees_11 rfl (by decide) ?_
    refine A_getR (pc := 12) C fl_X8_26 rfl (a := 84) (j := 90) rfl (tt_84 hT) rfl dX8_sees_12 ?_
    refine M_aload_n (pc := 15) C dX8_sees_15 rfl (by decide) ?_
    refine A_getI (pc := 16) C fl_X8_167 rfl (a := 84) rfl (tt_84 hT) dX8_sees_16 (fun (r_16 : i32 ((rs G 8 ((p : Nat) : Int)) 8)) => ?_)
    refine M.to (pc := 19) (st2 := [vI ((rs G 8 ((p : Nat) : Int)) 8), vR 90]) ?_ rfl rfl rfl
    refine M.to (pc := 19) (st2 := [vI ((p : Nat) : Int), vR 90]) ?_ rfl (by rw [rs_eq]) rfl
    refine A_iald (pc := 19) C (a := 90) (q := p) rfl (tt_90 hT) (by decide) rfl (by omega) dX8_sees_19 (fun (r_19 : i32 (v 90 p)) => ?_)
    refine M.to (pc := 20) (st2 := [vI (v 90 p)]) ?_ rfl rfl rfl
    refine M_iload_n (pc := 20) C dX8_sees_20 rfl ?_
    refine M_iload_n (pc := 21) C dX8_sees_21 rfl ?_
    refine A_cS (pc := 22) C (x := vI (Bi (inB (v 90 p) a b))) (c_X8_in hT (x := v 90 p) (a := a) (b := b) (by omega) (by omega) (by omega)) yw_X8_in lk_X8_45 rfl dX8_sees_22 rfl (Nat.le_of_ble_eq_true rfl) (by decide) ⟨Nat.le_refl _, Nat.le_refl _⟩ ?_
    refine T_eq (pc := 25) C dX8_sees_25 dX8_sees_28 dX8_sees_29 dX8_sees_32 ?_
    exact M_zret (pc := 33) C rfl (Bi_01 _) dX8_sees_33 (by first | (rw [pSee_no (by omega)]; rfl) | (rw [pSee_yes (by omega)])) rfl
theorem c_X8_takes {N : Nat} {T : Ty} {H G : Nat → Int} {n p : Nat} {c : Int} {v : Ct} (hT : TT T) (hl : G 7 = (n : Int)) (hn : n ≤ 60) (hp : p ≤ n) (hc : i32 c) : Runs mX8_takes 2 0 0 [vR 84, vI c] N T (sa (sa v 91 H) 84 (rs G 8 ((p : Nat) : Int))) (some (vI (Bi (pSee (v 90) n p c c)))) N T (sa (sa v 91 H) 84 (rs G 8 ((pTk (v 90) n p c : Nat) : Int))) := by
  have hbb := Bi_bd (pSee (v 90) n p c c)
  refine Runs.of (by decide) (Nat.le_of_ble_eq_true rfl) fun κ C => ?_
  refine M_aload_n (pc := 0) C dX8_takes_0 rfl (by decide) ?_
  refine M_iload_n (pc := 1) C dX8_takes_1 rfl ?_
  refine M_iload_n (pc := 2) C dX8_takes_2 rfl ?_
  refine A_cV (pc := 3) C (x := vI (Bi (pSee (v 90) n p c c))) (a := 84) (c := 8) (c_X8_sees hT (v := v) (H := H) (G := G) (n := n) (p := p) hl hn (by omega) (a := c) (b := c) (by omega) (by omega)) yw_X8_sees lk_X8_170 rfl (congrArg Prod.fst (tt_84 hT)) hc_8 rfl dX8_takes_3 rfl (Nat.le_of_ble_eq_true rfl) (by decide) ⟨Nat.le_refl _, Nat.le_refl _⟩ ?_
  refine M_istore_n (pc := 6) C dX8_takes_6 (by decide) ?_
  refine M_aload_n (pc := 7) C dX8_takes_7 rfl (by decide) ?_
  refine M_dup (pc := 8) C rfl dX8_takes_8 ?_
  refine A_getI (pc := 9) C fl_X8_167 rfl (a := 84) rfl (tt_84 hT) dX8_takes_9 (fun (r_9 : i32 ((rs G 8 ((p : Nat) : Int)) 8)) => ?_)
  refine M.to (pc := 12) (st2 := [vI ((rs G 8 ((p : Nat) : Int)) 8), vR 84]) ?_ rfl rfl rfl
  refine M.to (pc := 12) (st2 := [vI ((p : Nat) : Int), vR 84]) ?_ rfl (by rw [rs_eq]) rfl
  refine M_iload_n (pc := 12) C dX8_takes_12 rfl ?_
  refine T_eq (pc := 13) C dX8_takes_13 dX8_takes_16 dX8_takes_17 dX8_takes_20 ?_
  refine M_iadd (pc := 21) C dX8_takes_21 ?_
  refine A_putI (pc := 22) C fl_X8_167 rfl (by decide) (a := 84) rfl (tt_84 hT) (by omega) dX8_takes_22 ?_
  refine M.to (pc := 25) (v2 := sa (sa v 91 H) 84 (rs (rs G 8 ((p : Nat) : Int)) 8 (((p : Nat) : Int) + (Bi (pSee (v 90) n p c c))))) ?_ rfl rfl (by rw [sa_up0])
  refine M_iload_n (pc := 25) C dX8_takes_25 rfl ?_
  exact M_zret (pc := 26) C rfl (Bi_01 _) dX8_takes_26 rfl (by rw [rs_rs, pTk_eq])
theorem c_X8_digit {N : Nat} {T : Ty} {H G : Nat → Int} {n p : Nat} {k : Nat} {l : Int} {v : Ct} (hT : TT T) (hl : G 7 = (n : Int)) (hn : n ≤ 60) (hp : p ≤ n) (hk : k < 2) (hl1 : 0 ≤ l ∧ l ≤ 1) : Runs mX8_digit 2 0 0 [vR 84, vI ((k : Nat) : Int), vI l] N T (sa (sa v 91 H) 84 (rs G 8 ((p : Nat) : Int))) (some (vI (Bi (pSee (v 90) n p (48 + l) 57)))) N T (sa (sa v 91 (pDh (v 90) n p H k l)) 84 (rs G 8 ((pDp (v 90) n p l : Nat) : Int))) := by
  refine Runs.of (by decide) (Nat.le_of_ble_eq_true rfl) fun κ C => ?_
  refine M_aload_n (pc := 0) C dX8_digit_0 rfl (by decide) ?_
  refine M_bipush (pc := 1) C (by decide) dX8_digit_1 ?_
  refine M_iload_n (pc := 3) C dX8_digit_3 rfl ?_
  refine M_iadd (pc := 4) C dX8_digit_4 ?_
  refine M_bipush (pc := 5) C (by decide) dX8_digit_5 ?_
  refine A_cV (pc := 7) C (x := vI (Bi (pSee (v 90) n p (48 + l) 57))) (a := 84) (c := 8) (c_X8_sees hT (v := v) (H := H) (G := G) (n := n) (p := p) hl hn (by omega) (a := 48 + l) (b := 57) (by omega) (by omega)) yw_X8_sees lk_X8_170 rfl (congrArg Prod.fst (tt_84 hT)) hc_8 rfl dX8_digit_7 rfl (Nat.le_of_ble_eq_true rfl) (by decide) ⟨Nat.le_refl _, Nat.le_refl _⟩ ?_
  refine M_if_ne (pc := 10) C (tgt := 15) (Bi_i32 _) dX8_digit_10 (by decide) (fun h_10 => ?_) (fun h_10 => ?_)
  · have b_10 := Bi_ne0 h_10
    have hsl := pSee_lt b_10
    have e1 : pDp (v 90) n p l = p + 1 := if_pos b_10
    have e2 : pDh (v 90) n p H k l = rs H k (v 90 p - 48) := if_pos b_10
    refine M_aload_n (pc := 15) C dX8_digit_15 rfl (by decide) ?_
    refine A_getR (pc := 16) C fl_X8_29 rfl (a := 84) (j := 91) rfl (tt_84 hT) rfl dX8_digit_16 ?_
    refine M_iload_n (pc := 19) C dX8_digit_19 rfl ?_
    refine M_aload_n (pc := 20) C dX8_digit_20 rfl (by decide) ?_
    refine A_getR (pc := 21) C fl_X8_26 rfl (a := 84) (j := 90) rfl (tt_84 hT) rfl dX8_digit_21 ?_
    refine M_aload_n (pc := 24) C dX8_digit_24 rfl (by decide) ?_
    refine A_getI (pc := 25) C fl_X8_167 rfl (a := 84) rfl (tt_84 hT) dX8_digit_25 (fun (r_25 : i32 ((rs G 8 ((p : Nat) : Int)) 8)) => ?_)
    refine M.to (pc := 28) (st2 := [vI ((rs G 8 ((p : Nat) : Int)) 8), vR 90, vI ((k : Nat) : Int), vR 91]) ?_ rfl rfl rfl
    refine M.to (pc := 28) (st2 := [vI ((p : Nat) : Int), vR 90, vI ((k : Nat) : Int), vR 91]) ?_ rfl (by rw [rs_eq]) rfl
    refine A_iald (pc := 28) C (a := 90) (q := p) rfl (tt_90 hT) (by decide) rfl (by omega) dX8_digit_28 (fun (r_28 : i32 (v 90 p)) => ?_)
    refine M.to (pc := 29) (st2 := [vI (v 90 p), vI ((k : Nat) : Int), vR 91]) ?_ rfl rfl rfl
    refine M_bipush (pc := 29) C (by decide) dX8_digit_29 ?_
    refine M_isub (pc := 31) C dX8_digit_31 ?_
    refine A_iast (pc := 32) C (a := 91) (q := k) rfl (tt_91 hT) (by decide) rfl (by omega) (by omega) dX8_digit_32 ?_
    refine M.to (pc := 33) (v2 := sa (sa v 91 (rs H k ((v 90 p) - 48))) 84 (rs G 8 ((p : Nat) : Int))) ?_ rfl rfl (by rw [sa_up1 (by decide), sa_up0])
    refine M_aload_n (pc := 33) C dX8_digit_33 rfl (by decide) ?_
    refine M_dup (pc := 34) C rfl dX8_digit_34 ?_
    refine A_getI (pc := 35) C fl_X8_167 rfl (a := 84) rfl (tt_84 hT) dX8_digit_35 (fun (r_35 : i32 ((rs G 8 ((p : Nat) : Int)) 8)) => ?_)
    refine M.to (pc := 38) (st2 := [vI ((rs G 8 ((p : Nat) : Int)) 8), vR 84]) ?_ rfl rfl rfl
    refine M.to (pc := 38) (st2 := [vI ((p : Nat) : Int), vR 84]) ?_ rfl (by rw [rs_eq]) rfl
    refine M_iconst (pc := 38) C dX8_digit_38 ?_
    refine M_iadd (pc := 39) C dX8_digit_39 ?_
    refine A_putI (pc := 40) C fl_X8_167 rfl (by decide) (a := 84) rfl (tt_84 hT) (by omega) dX8_digit_40 ?_
    refine M.to (pc := 43) (v2 := sa (sa v 91 (rs H k ((v 90 p) - 48))) 84 (rs (rs G 8 ((p : Nat) : Int)) 8 (((p : Nat) : Int) + 1))) ?_ rfl rfl (by rw [sa_up0])
    refine M.to (pc := 43) (v2 := sa (sa v 91 (rs H k ((v 90 p) - 48))) 84 (rs G 8 ((p + 1 : Nat) : Int))) ?_ rfl rfl (by rw [rs_rs]; rfl)
    refine M_iconst (pc := 43) C dX8_digit_43 ?_
    exact M_zret (pc := 44) C rfl (Or.inr rfl) dX8_digit_44 (by rw [b_10]; rfl) (by rw [e1, e2])
  · have b_10 := Bi_eq0 h_10
    have e1 : pDp (v 90) n p l = p := if_neg (by rw [b_10]; decide)
    have e2 : pDh (v 90) n p H k l = H := if_neg (by rw [b_10]; decide)
    refine M_iconst (pc := 13) C dX8_digit_13 ?_
    exact M_zret (pc := 14) C rfl (Or.inl rfl) dX8_digit_14 (by rw [b_10]; rfl) (by rw [e1, e2])
theorem c_X8_number {N : Nat} {T : Ty} {H G : Nat → Int} {n p : Nat} {k : Nat} {l : Int} {v : Ct} (hT : TT T) (hl : G 7 = (n : Int)) (hn : n ≤ 60) (hp : p ≤ n) (hk : k < 2) (hl1 : 0 ≤ l ∧ l ≤ 1) : Runs mX8_number 3 0 0 [vR 84, vI ((k : Nat) : Int), vI l] N T (sa (sa v 91 H) 84 (rs G 8 ((p : Nat) : Int))) (some (vI (Bi (pSee (v 90) n p (48 + l) 57)))) N T (sa (sa v 91 (pNh (v 90) n p H k l)) 84 (rs G 8 ((pNp (v 90) n p H k l : Nat) : Int))) := by
  refine Runs.of (by decide) (Nat.le_of_ble_eq_true rfl) fun κ C => ?_
  refine M_aload_n (pc := 0) C dX8_number_0 rfl (by decide) ?_
  refine M_iload_n (pc := 1) C dX8_number_1 rfl ?_
  refine M_iload_n (pc := 2) C dX8_number_2 rfl ?_
  refine A_cV (pc := 3) C (x := vI (Bi (pSee (v 90) n p (48 + l) 57))) (a := 84) (c := 8) (c_X8_digit hT (v := v) (H := H) (G := G) (n := n) (p := p) hl hn (by omega) (k := k) (l := l) (by omega) (by omega)) yw_X8_digit lk_X8_173 rfl (congrArg Prod.fst (tt_84 hT)) hc_8 rfl dX8_number_3 rfl (Nat.le_of_ble_eq_true rfl) (by decide) ⟨Nat.le_refl _, Nat.le_refl _⟩ ?_
  refine M_if_ne (pc := 6) C (tgt := 11) (Bi_i32 _) dX8_number_6 (by decide) (fun h_6 => ?_) (fun h_6 => ?_)
  · have b_6 := Bi_ne0 h_6
    have hsl := pSee_lt b_6
    have e1 : pDp (v 90) n p l = p + 1 := if_pos b_6
    have e2 : pDh (v 90) n p H k l = rs H k (v 90 p - 48) := if_pos b_6
    have e3 : pNp (v 90) n p H k l = (nuI (v 90) n k p H 60).1 := if_pos b_6
    have e4 : pNh (v 90) n p H k l = (nuI (v 90) n k p H 60).2 := if_pos b_6
    refine M.to (v2 := sa (sa v 91 ((nuI (v 90) n k p H 0).2)) 84 (rs G 8 (((nuI (v 90) n k p H 0).1 : Nat) : Int))) ?_ rfl rfl (by rw [e1, e2]; rfl)
    refine loop_le (P := fun i => M κ N T 11 [some (vR 84), some (vI ((k : Nat) : Int)), some (vI l)] [] (sa (sa v 91 ((nuI (v 90) n k p H i).2)) 84 (rs G 8 (((nuI (v 90) n k p H i).1 : Nat) : Int))) 0 0 (QR κ (some (vI (Bi (pSee (v 90) n p (48 + l) 57)))) N T (sa (sa v 91 (pNh (v 90) n p H k l)) 84 (rs G 8 ((pNp (v 90) n p H k l : Nat) : Int))) 0 0)) 60 (fun i hi ih => ?_)
    have hq := nuI_bd (H := H) (k := k) hl1.1 b_6 i
    refine M_aload_n (pc := 11) C dX8_number_11 rfl (by decide) ?_
    refine A_getR (pc := 12) C fl_X8_29 rfl (a := 84) (j := 91) rfl (tt_84 hT) rfl dX8_number_12 ?_
    refine M_iload_n (pc := 15) C dX8_number_15 rfl ?_
    refine A_iald (pc := 16) C (a := 91) (q := k) rfl (tt_91 hT) (by decide) (by omega) (by omega) dX8_number_16 (fun (r_16 : i32 (((nuI (v 90) n k p H i).2) k)) => ?_)
    refine M.to (pc := 17) (st2 := [vI (((nuI (v 90) n k p H i).2) k)]) ?_ rfl rfl rfl
    refine M_if_le (pc := 17) C (tgt := 100) (by omega) dX8_number_17 (by decide) (fun h_17 => ?_) (fun h_17 => ?_)
    · have hC : nuC (v 90) n k (nuI (v 90) n k p H i) = false := nuC_0 h_17
      refine M_iconst (pc := 100) C dX8_number_100 ?_
      exact M_zret (pc := 101) C rfl (Or.inr rfl) dX8_number_101 (by rw [b_6]; rfl) (by rw [e3, e4, nuI_e hC (by omega)])
    · refine M_aload_n (pc := 20) C dX8_number_20 rfl (by decide) ?_
      refine M_bipush (pc := 21) C (by decide) dX8_number_21 ?_
      refine M_bipush (pc := 23) C (by decide) dX8_number_23 ?_
      refine A_cV (pc := 25) C (x := vI (Bi (pSee (v 90) n ((nuI (v 90) n k p H i).1) 48 57))) (a := 84) (c := 8) (c_X8_sees hT (v := v) (H := (nuI (v 90) n k p H i).2) (G := G) (n := n) (p := (nuI (v 90) n k p H i).1) hl hn (by omega) (a := 48) (b := 57) (by omega) (by omega)) yw_X8_sees lk_X8_170 rfl (congrArg Prod.fst (tt_84 hT)) hc_8 rfl dX8_number_25 rfl (Nat.le_of_ble_eq_true rfl) (by decide) ⟨Nat.le_refl _, Nat.le_refl _⟩ ?_
      refine M_if_eq (pc := 28) C (tgt := 100) (Bi_i32 _) dX8_number_28 (by decide) (fun h_28 => ?_) (fun h_28 => ?_)
      · have b_28 := Bi_eq0 h_28
        have hC : nuC (v 90) n k (nuI (v 90) n k p H i) = false := nuC_1 b_28
        refine M_iconst (pc := 100) C dX8_number_100 ?_
        exact M_zret (pc := 101) C rfl (Or.inr rfl) dX8_number_101 (by rw [b_6]; rfl) (by rw [e3, e4, nuI_e hC (by omega)])
      · have b_28 := Bi_ne0 h_28
        have hs2 := pSee_lt b_28
        refine M_bipush (pc := 31) C (by decide) dX8_number_31 ?_
        refine M_aload_n (pc := 33) C dX8_number_33 rfl (by decide) ?_
        refine A_getR (pc := 34) C fl_X8_29 rfl (a := 84) (j := 91) rfl (tt_84 hT) rfl dX8_number_34 ?_
        refine M_iload_n (pc := 37) C dX8_number_37 rfl ?_
        refine A_iald (pc := 38) C (a := 91) (q := k) rfl (tt_91 hT) (by decide) rfl (by omega) dX8_number_38 (fun (r_38 : i32 (((nuI (v 90) n k p H i).2) k)) => ?_)
        refine M.to (pc := 39) (st2 := [vI (((nuI (v 90) n k p H i).2) k), vI 10]) ?_ rfl rfl rfl
        refine M_imul (pc := 39) C dX8_number_39 ?_
        refine M_aload_n (pc := 40) C dX8_number_40 rfl (by decide) ?_
        refine A_getR (pc := 41) C fl_X8_26 rfl (a := 84) (j := 90) rfl (tt_84 hT) rfl dX8_number_41 ?_
        refine M_aload_n (pc := 44) C dX8_number_44 rfl (by decide) ?_
        refine A_getI (pc := 45) C fl_X8_167 rfl (a := 84) rfl (tt_84 hT) dX8_number_45 (fun (r_45 : i32 ((rs G 8 (((nuI (v 90) n k p H i).1 : Nat) : Int)) 8)) => ?_)
        refine M.to (pc := 48) (st2 := [vI ((rs G 8 (((nuI (v 90) n k p H i).1 : Nat) : Int)) 8), vR 90, vI (10 * (((nuI (v 90) n k p H i).2) k))]) ?_ rfl rfl rfl
        refine M.to (pc := 48) (st2 := [vI (((nuI (v 90) n k p H i).1 : Nat) : Int), vR 90, vI (10 * (((nuI (v 90) n k p H i).2) k))]) ?_ rfl (by rw [rs_eq]) rfl
        refine A_iald (pc := 48) C (a := 90) (q := ((nuI (v 90) n k p H i).1)) rfl (tt_90 hT) (by decide) (by omega) (by omega) dX8_number_48 (fun (r_48 : i32 (v 90 ((nuI (v 90) n k p H i).1))) => ?_)
        refine M.to (pc := 49) (st2 := [vI (v 90 ((nuI (v 90) n k p H i).1)), vI (10 * (((nuI (v 90) n k p H i).2) k))]) ?_ rfl rfl rfl
        refine M_iadd (pc := 49) C dX8_number_49 ?_
        refine M_bipush (pc := 50) C (by decide) dX8_number_50 ?_
        refine M_isub (pc := 52) C dX8_number_52 ?_
        refine M_sipush (pc := 53) C (by decide) dX8_number_53 ?_
        refine M_icmp_gt (pc := 56) C (tgt := 100) (by omega) (by omega) dX8_number_56 (by decide) (fun h_56 => ?_) (fun h_56 => ?_)
        · have hC : nuC (v 90) n k (nuI (v 90) n k p H i) = false := nuC_2 (by omega)
          refine M_iconst (pc := 100) C dX8_number_100 ?_
          exact M_zret (pc := 101) C rfl (Or.inr rfl) dX8_number_101 (by rw [b_6]; rfl) (by rw [e3, e4, nuI_e hC (by omega)])
        · have hC : nuC (v 90) n k (nuI (v 90) n k p H i) = true := nuC_t (by omega) b_28 (by omega)
          refine M_aload_n (pc := 59) C dX8_number_59 rfl (by decide) ?_
          refine A_getR (pc := 60) C fl_X8_29 rfl (a := 84) (j := 91) rfl (tt_84 hT) rfl dX8_number_60 ?_
          refine M_iload_n (pc := 63) C dX8_number_63 rfl ?_
          refine M_bipush (pc := 64) C (by decide) dX8_number_64 ?_
          refine M_aload_n (pc := 66) C dX8_number_66 rfl (by decide) ?_
          refine A_getR (pc := 67) C fl_X8_29 rfl (a := 84) (j := 91) rfl (tt_84 hT) rfl dX8_number_67 ?_
          refine M_iload_n (pc := 70) C dX8_number_70 rfl ?_
          refine A_iald (pc := 71) C (a := 91) (q := k) rfl (tt_91 hT) (by decide) rfl (by omega) dX8_number_71 (fun (r_71 : i32 (((nuI (v 90) n k p H i).2) k)) => ?_)
          refine M.to (pc := 72) (st2 := [vI (((nuI (v 90) n k p H i).2) k), vI 10, vI ((k : Nat) : Int), vR 91]) ?_ rfl rfl rfl
          refine M_imul (pc := 72) C dX8_number_72 ?_
          refine M_aload_n (pc := 73) C dX8_number_73 rfl (by decide) ?_
          refine A_getR (pc := 74) C fl_X8_26 rfl (a := 84) (j := 90) rfl (tt_84 hT) rfl dX8_number_74 ?_
          refine M_aload_n (pc := 77) C dX8_number_77 rfl (by decide) ?_
          refine A_getI (pc := 78) C fl_X8_167 rfl (a := 84) rfl (tt_84 hT) dX8_number_78 (fun (r_78 : i32 ((rs G 8 (((nuI (v 90) n k p H i).1 : Nat) : Int)) 8)) => ?_)
          refine M.to (pc := 81) (st2 := [vI ((rs G 8 (((nuI (v 90) n k p H i).1 : Nat) : Int)) 8), vR 90, vI (10 * (((nuI (v 90) n k p H i).2) k)), vI ((k : Nat) : Int), vR 91]) ?_ rfl rfl rfl
          refine M.to (pc := 81) (st2 := [vI (((nuI (v 90) n k p H i).1 : Nat) : Int), vR 90, vI (10 * (((nuI (v 90) n k p H i).2) k)), vI ((k : Nat) : Int), vR 91]) ?_ rfl (by rw [rs_eq]) rfl
          refine A_iald (pc := 81) C (a := 90) (q := ((nuI (v 90) n k p H i).1)) rfl (tt_90 hT) (by decide) (by omega) (by omega) dX8_number_81 (fun (r_81 : i32 (v 90 ((nuI (v 90) n k p H i).1))) => ?_)
          refine M.to (pc := 82) (st2 := [vI (v 90 ((nuI (v 90) n k p H i).1)), vI (10 * (((nuI (v 90) n k p H i).2) k)), vI ((k : Nat) : Int), vR 91]) ?_ rfl rfl rfl
          refine M_iadd (pc := 82) C dX8_number_82 ?_
          refine M_bipush (pc := 83) C (by decide) dX8_number_83 ?_
          refine M_isub (pc := 85) C dX8_number_85 ?_
          refine A_iast (pc := 86) C (a := 91) (q := k) rfl (tt_91 hT) (by decide) rfl (by omega) (by omega) dX8_number_86 ?_
          refine M.to (pc := 87) (v2 := sa (sa v 91 (rs ((nuI (v 90) n k p H i).2) k (((10 * (((nuI (v 90) n k p H i).2) k)) + (v 90 ((nuI (v 90) n k p H i).1))) - 48))) 84 (rs G 8 (((nuI (v 90) n k p H i).1 : Nat) : Int))) ?_ rfl rfl (by rw [sa_up1 (by decide), sa_up0])
          refine M_aload_n (pc := 87) C dX8_number_87 rfl (by decide) ?_
          refine M_dup (pc := 88) C rfl dX8_number_88 ?_
          refine A_getI (pc := 89) C fl_X8_167 rfl (a := 84) rfl (tt_84 hT) dX8_number_89 (fun (r_89 : i32 ((rs G 8 (((nuI (v 90) n k p H i).1 : Nat) : Int)) 8)) => ?_)
          refine M.to (pc := 92) (st2 := [vI ((rs G 8 (((nuI (v 90) n k p H i).1 : Nat) : Int)) 8), vR 84]) ?_ rfl rfl rfl
          refine M.to (pc := 92) (st2 := [vI (((nuI (v 90) n k p H i).1 : Nat) : Int), vR 84]) ?_ rfl (by rw [rs_eq]) rfl
          refine M_iconst (pc := 92) C dX8_number_92 ?_
          refine M_iadd (pc := 93) C dX8_number_93 ?_
          refine A_putI (pc := 94) C fl_X8_167 rfl (by decide) (a := 84) rfl (tt_84 hT) (by omega) dX8_number_94 ?_
          refine M.to (pc := 97) (v2 := sa (sa v 91 (rs ((nuI (v 90) n k p H i).2) k (((10 * (((nuI (v 90) n k p H i).2) k)) + (v 90 ((nuI (v 90) n k p H i).1))) - 48))) 84 (rs (rs G 8 (((nuI (v 90) n k p H i).1 : Nat) : Int)) 8 ((((nuI (v 90) n k p H i).1 : Nat) : Int) + 1))) ?_ rfl rfl (by rw [sa_up0])
          refine M.to (pc := 97) (v2 := sa (sa v 91 (rs ((nuI (v 90) n k p H i).2) k (((10 * (((nuI (v 90) n k p H i).2) k)) + (v 90 ((nuI (v 90) n k p H i).1))) - 48))) 84 (rs G 8 ((((nuI (v 90) n k p H i).1) + 1 : Nat) : Int))) ?_ rfl rfl (by rw [rs_rs]; rfl)
          refine M_goto (pc := 97) C (tgt := 11) dX8_number_97 (by decide) ?_
          exact M.to (ih (by have := nuI_mu hC; omega)) rfl rfl (by rw [nuI_s hC])
  · have b_6 := Bi_eq0 h_6
    have e3 : pNp (v 90) n p H k l = p := if_neg (by rw [b_6]; decide)
    have e4 : pNh (v 90) n p H k l = H := if_neg (by rw [b_6]; decide)
    have e1 : pDp (v 90) n p l = p := if_neg (by rw [b_6]; decide)
    have e2 : pDh (v 90) n p H k l = H := if_neg (by rw [b_6]; decide)
    refine M_iconst (pc := 9) C dX8_number_9 ?_
    exact M_zret (pc := 10) C rfl (Or.inl rfl) dX8_number_10 (by rw [b_6]; rfl) (by rw [e1, e2, e3, e4])
theorem c_X8_reads_60 {N : Nat} {T : Ty} {H G : Nat → Int} {n p : Nat} {v : Ct} (hT : TT T) (hl : G 7 = (n : Int)) (hn : n ≤ 60) (hp : p ≤ n) : Runs mX8_reads 4 0 0 [vR 84, vI 60] N T (sa (sa v 91 H) 84 (rs G 8 ((p : Nat) : Int))) (some (vI (Bi (pRdS (v 90) n 60 p H).1))) N T (sa (sa v 91 ((pRdS (v 90) n 60 p H).2.2)) 84 (rs G 8 (((pRdS (v 90) n 60 p H).2.1 : Nat) : Int))) := by
  refine Runs.of (by decide) (Nat.le_of_ble_eq_true rfl) fun κ C => ?_
  refine M_iload_n (pc := 0) C dX8_reads_0 rfl ?_
  refine M_lookup (pc := 1) C (off := 41) (tgt := 42) (by decide) (by decide) rfl dX8_reads_1 rfl ?_
  refine M_aload_n (pc := 42) C dX8_reads_42 rfl (by decide) ?_
  refine M_iconst (pc := 43) C dX8_reads_43 ?_
  refine M_iconst (pc := 44) C dX8_reads_44 ?_
  refine A_cV (pc := 45) C (x := vI (Bi (pSee (v 90) n p (48 + 0) 57))) (a := 84) (c := 8) (c_X8_digit hT (v := v) (H := H) (G := G) (n := n) (p := p) hl hn (by omega) (k := 0) (l := 0) (by omega) (by omega)) yw_X8_digit lk_X8_173 rfl (congrArg Prod.fst (tt_84 hT)) hc_8 rfl dX8_reads_45 rfl (Nat.le_of_ble_eq_true rfl) (by decide) ⟨Nat.le_refl _, Nat.le_refl _⟩ ?_
  refine M_if_eq (pc := 48) C (tgt := 73) (Bi_i32 _) dX8_reads_48 (by decide) (fun h_48 => ?_) (fun h_48 => ?_)
  · have b_48 := Bi_eq0 h_48
    have e1 : pDp (v 90) n p 0 = p := if_neg (by rw [b_48]; decide)
    have e2 : pDh (v 90) n p H 0 0 = H := if_neg (by rw [b_48]; decide)
    have e3 : pRdS (v 90) n 60 p H = (false, p, H) := by unfold pRdS; rw [if_neg (by decide), if_neg (by decide), if_neg (by rw [b_48]; decide)]
    refine M.to (v2 := sa (sa v 91 H) 84 (rs G 8 ((p : Nat) : Int))) ?_ rfl rfl (by rw [e1, e2])
    refine M_iconst (pc := 73) C dX8_reads_73 ?_
    exact M_zret (pc := 74) C rfl (Or.inl rfl) dX8_reads_74 (by rw [e3] <;> rfl) (by rw [e3])
  · have b_48 := Bi_ne0 h_48
    have hs1 := pSee_lt b_48
    have e1 : pDp (v 90) n p 0 = p + 1 := if_pos b_48
    have e2 : pDh (v 90) n p H 0 0 = rs H 0 (v 90 p - 48) := if_pos b_48
    refine M.to (v2 := sa (sa v 91 (rs H 0 (v 90 p - 48))) 84 (rs G 8 ((p + 1 : Nat) : Int))) ?_ rfl rfl (by rw [e1, e2])
    refine M_aload_n (pc := 51) C dX8_reads_51 rfl (by decide) ?_
    refine M_bipush (pc := 52) C (by decide) dX8_reads_52 ?_
    refine A_cV (pc := 54) C (x := vI (Bi (pSee (v 90) n (p + 1) 58 58))) (a := 84) (c := 8) (c_X8_takes hT (v := v) (H := rs H 0 (v 90 p - 48)) (G := G) (n := n) (p := p + 1) hl hn (by omega) (c := 58) (by omega)) yw_X8_takes lk_X8_179 rfl (congrArg Prod.fst (tt_84 hT)) hc_8 rfl dX8_reads_54 rfl (Nat.le_of_ble_eq_true rfl) (by decide) ⟨Nat.le_refl _, Nat.le_refl _⟩ ?_
    refine M_if_eq (pc := 57) C (tgt := 73) (Bi_i32 _) dX8_reads_57 (by decide) (fun h_57 => ?_) (fun h_57 => ?_)
    · have b_57 := Bi_eq0 h_57
      have e4 : pTk (v 90) n (p + 1) 58 = p + 1 := if_neg (by rw [b_57]; decide)
      have e3 : pRdS (v 90) n 60 p H = (false, p + 1, rs H 0 (v 90 p - 48)) := by unfold pRdS; rw [if_neg (by decide), if_neg (by decide), if_pos b_48, if_neg (by rw [b_57]; decide)]
      refine M.to (v2 := sa (sa v 91 (rs H 0 (v 90 p - 48))) 84 (rs G 8 ((p + 1 : Nat) : Int))) ?_ rfl rfl (by rw [e4])
      refine M_iconst (pc := 73) C dX8_reads_73 ?_
      exact M_zret (pc := 74) C rfl (Or.inl rfl) dX8_reads_74 (by rw [e3] <;> rfl) (by rw [e3])
    · have b_57 := Bi_ne0 h_57
      have hs2 := pSee_lt b_57
      have e4 : pTk (v 90) n (p + 1) 58 = p + 2 := if_pos b_57
      have e3 : pRdS (v 90) n 60 p H = (pSee (v 90) n (p + 2) (48 + 1) 57, pNp (v 90) n (p + 2) (rs H 0 (v 90 p - 48)) 1 1, pNh (v 90) n (p + 2) (rs H 0 (v 90 p - 48)) 1 1) := by unfold pRdS; rw [if_neg (by decide), if_neg (by decide), if_pos b_48, if_pos b_57]
      refine M.to (v2 := sa (sa v 91 (rs H 0 (v 90 p - 48))) 84 (rs G 8 ((p + 2 : Nat) : Int))) ?_ rfl rfl (by rw [e4])
      refine M_aload_n (pc := 60) C dX8_reads_60 rfl (by decide) ?_
      refine M_iconst (pc := 61) C dX8_reads_61 ?_
      refine M_iconst (pc := 62) C dX8_reads_62 ?_
      refine A_cV (pc := 63) C (x := vI (Bi (pSee (v 90) n (p + 2) (48 + 1) 57))) (a := 84) (c := 8) (c_X8_number hT (v := v) (H := rs H 0 (v 90 p - 48)) (G := G) (n := n) (p := p + 2) hl hn (by omega) (k := 1) (l := 1) (by omega) (by omega)) yw_X8_number lk_X8_176 rfl (congrArg Prod.fst (tt_84 hT)) hc_8 rfl dX8_reads_63 rfl (Nat.le_of_ble_eq_true rfl) (by decide) ⟨Nat.le_refl _, Nat.le_refl _⟩ ?_
      refine T_eq (pc := 66) C dX8_reads_66 dX8_reads_69 dX8_reads_70 dX8_reads_73 ?_
      exact M_zret (pc := 74) C rfl (Bi_01 _) dX8_reads_74 (by rw [e3] <;> rfl) (by rw [e3])
theorem c_X8_reads_62 {N : Nat} {T : Ty} {H G : Nat → Int} {n p : Nat} {v : Ct} (hT : TT T) (hl : G 7 = (n : Int)) (hn : n ≤ 60) (hp : p ≤ n) : Runs mX8_reads 4 0 0 [vR 84, vI 62] N T (sa (sa v 91 H) 84 (rs G 8 ((p : Nat) : Int))) (some (vI (Bi (pRdS (v 90) n 62 p H).1))) N T (sa (sa v 91 ((pRdS (v 90) n 62 p H).2.2)) 84 (rs G 8 (((pRdS (v 90) n 62 p H).2.1 : Nat) : Int))) := by
  refine Runs.of (by decide) (Nat.le_of_ble_eq_true rfl) fun κ C => ?_
  refine M_iload_n (pc := 0) C dX8_reads_0 rfl ?_
  refine M_lookup (pc := 1) C (off := 41) (tgt := 42) (by decide) (by decide) rfl dX8_reads_1 rfl ?_
  refine M_aload_n (pc := 42) C dX8_reads_42 rfl (by decide) ?_
  refine M_iconst (pc := 43) C dX8_reads_43 ?_
  refine M_iconst (pc := 44) C dX8_reads_44 ?_
  refine A_cV (pc := 45) C (x := vI (Bi (pSee (v 90) n p (48 + 0) 57))) (a := 84) (c := 8) (c_X8_digit hT (v := v) (H := H) (G := G) (n := n) (p := p) hl hn (by omega) (k := 0) (l := 0) (by omega) (by omega)) yw_X8_digit lk_X8_173 rfl (congrArg Prod.fst (tt_84 hT)) hc_8 rfl dX8_reads_45 rfl (Nat.le_of_ble_eq_true rfl) (by decide) ⟨Nat.le_refl _, Nat.le_refl _⟩ ?_
  refine M_if_eq (pc := 48) C (tgt := 73) (Bi_i32 _) dX8_reads_48 (by decide) (fun h_48 => ?_) (fun h_48 => ?_)
  · have b_48 := Bi_eq0 h_48
    have e1 : pDp (v 90) n p 0 = p := if_neg (by rw [b_48]; decide)
    have e2 : pDh (v 90) n p H 0 0 = H := if_neg (by rw [b_48]; decide)
    have e3 : pRdS (v 90) n 62 p H = (false, p, H) := by unfold pRdS; rw [if_neg (by decide), if_neg (by decide), if_neg (by rw [b_48]; decide)]
    refine M.to (v2 := sa (sa v 91 H) 84 (rs G 8 ((p : Nat) : Int))) ?_ rfl rfl (by rw [e1, e2])
    refine M_iconst (pc := 73) C dX8_reads_73 ?_
    exact M_zret (pc := 74) C rfl (Or.inl rfl) dX8_reads_74 (by rw [e3] <;> rfl) (by rw [e3])
  · have b_48 := Bi_ne0 h_48
    have hs1 := pSee_lt b_48
    have e1 : pDp (v 90) n p 0 = p + 1 := if_pos b_48
    have e2 : pDh (v 90) n p H 0 0 = rs H 0 (v 90 p - 48) := if_pos b_48
    refine M.to (v2 := sa (sa v 91 (rs H 0 (v 90 p - 48))) 84 (rs G 8 ((p + 1 : Nat) : Int))) ?_ rfl rfl (by rw [e1, e2])
    refine M_aload_n (pc := 51) C dX8_reads_51 rfl (by decide) ?_
    refine M_bipush (pc := 52) C (by decide) dX8_reads_52 ?_
    refine A_cV (pc := 54) C (x := vI (Bi (pSee (v 90) n (p + 1) 58 58))) (a := 84) (c := 8) (c_X8_takes hT (v := v) (H := rs H 0 (v 90 p - 48)) (G := G) (n := n) (p := p + 1) hl hn (by omega) (c := 58) (by omega)) yw_X8_takes lk_X8_179 rfl (congrArg Prod.fst (tt_84 hT)) hc_8 rfl dX8_reads_54 rfl (Nat.le_of_ble_eq_true rfl) (by decide) ⟨Nat.le_refl _, Nat.le_refl _⟩ ?_
    refine M_if_eq (pc := 57) C (tgt := 73) (Bi_i32 _) dX8_reads_57 (by decide) (fun h_57 => ?_) (fun h_57 => ?_)
    · have b_57 := Bi_eq0 h_57
      have e4 : pTk (v 90) n (p + 1) 58 = p + 1 := if_neg (by rw [b_57]; decide)
      have e3 : pRdS (v 90) n 62 p H = (false, p + 1, rs H 0 (v 90 p - 48)) := by unfold pRdS; rw [if_neg (by decide), if_neg (by decide), if_pos b_48, if_neg (by rw [b_57]; decide)]
      refine M.to (v2 := sa (sa v 91 (rs H 0 (v 90 p - 48))) 84 (rs G 8 ((p + 1 : Nat) : Int))) ?_ rfl rfl (by rw [e4])
      refine M_iconst (pc := 73) C dX8_reads_73 ?_
      exact M_zret (pc := 74) C rfl (Or.inl rfl) dX8_reads_74 (by rw [e3] <;> rfl) (by rw [e3])
    · have b_57 := Bi_ne0 h_57
      have hs2 := pSee_lt b_57
      have e4 : pTk (v 90) n (p + 1) 58 = p + 2 := if_pos b_57
      have e3 : pRdS (v 90) n 62 p H = (pSee (v 90) n (p + 2) (48 + 1) 57, pNp (v 90) n (p + 2) (rs H 0 (v 90 p - 48)) 1 1, pNh (v 90) n (p + 2) (rs H 0 (v 90 p - 48)) 1 1) := by unfold pRdS; rw [if_neg (by decide), if_neg (by decide), if_pos b_48, if_pos b_57]
      refine M.to (v2 := sa (sa v 91 (rs H 0 (v 90 p - 48))) 84 (rs G 8 ((p + 2 : Nat) : Int))) ?_ rfl rfl (by rw [e4])
      refine M_aload_n (pc := 60) C dX8_reads_60 rfl (by decide) ?_
      refine M_iconst (pc := 61) C dX8_reads_61 ?_
      refine M_iconst (pc := 62) C dX8_reads_62 ?_
      refine A_cV (pc := 63) C (x := vI (Bi (pSee (v 90) n (p + 2) (48 + 1) 57))) (a := 84) (c := 8) (c_X8_number hT (v := v) (H := rs H 0 (v 90 p - 48)) (G := G) (n := n) (p := p + 2) hl hn (by omega) (k := 1) (l := 1) (by omega) (by omega)) yw_X8_number lk_X8_176 rfl (congrArg Prod.fst (tt_84 hT)) hc_8 rfl dX8_reads_63 rfl (Nat.le_of_ble_eq_true rfl) (by decide) ⟨Nat.le_refl _, Nat.le_refl _⟩ ?_
      refine T_eq (pc := 66) C dX8_reads_66 dX8_reads_69 dX8_reads_70 dX8_reads_73 ?_
      exact M_zret (pc := 74) C rfl (Bi_01 _) dX8_reads_74 (by rw [e3] <;> rfl) (by rw [e3])
theorem c_X8_reads_43 {N : Nat} {T : Ty} {H G : Nat → Int} {n p : Nat} {v : Ct} (hT : TT T) (hl : G 7 = (n : Int)) (hn : n ≤ 60) (hp : p ≤ n) : Runs mX8_reads 4 0 0 [vR 84, vI 43] N T (sa (sa v 91 H) 84 (rs G 8 ((p : Nat) : Int))) (some (vI (Bi (pRdS (v 90) n 43 p H).1))) N T (sa (sa v 91 ((pRdS (v 90) n 43 p H).2.2)) 84 (rs G 8 (((pRdS (v 90) n 43 p H).2.1 : Nat) : Int))) := by
  refine Runs.of (by decide) (Nat.le_of_ble_eq_true rfl) fun κ C => ?_
  refine M_iload_n (pc := 0) C dX8_reads_0 rfl ?_
  refine M_lookup (pc := 1) C (off := 27) (tgt := 28) (by decide) (by decide) rfl dX8_reads_1 rfl ?_
  refine M_aload_n (pc := 28) C dX8_reads_28 rfl (by decide) ?_
  refine M_iconst (pc := 29) C dX8_reads_29 ?_
  refine M_iconst (pc := 30) C dX8_reads_30 ?_
  refine A_cV (pc := 31) C (x := vI (Bi (pSee (v 90) n p (48 + 0) 57))) (a := 84) (c := 8) (c_X8_number hT (v := v) (H := H) (G := G) (n := n) (p := p) hl hn (by omega) (k := 0) (l := 0) (by omega) (by omega)) yw_X8_number lk_X8_176 rfl (congrArg Prod.fst (tt_84 hT)) hc_8 rfl dX8_reads_31 rfl (Nat.le_of_ble_eq_true rfl) (by decide) ⟨Nat.le_refl _, Nat.le_refl _⟩ ?_
  exact M_zret (pc := 34) C rfl (Bi_01 _) dX8_reads_34 rfl rfl
theorem c_X8_reads_45 {N : Nat} {T : Ty} {H G : Nat → Int} {n p : Nat} {v : Ct} (hT : TT T) (hl : G 7 = (n : Int)) (hn : n ≤ 60) (hp : p ≤ n) : Runs mX8_reads 4 0 0 [vR 84, vI 45] N T (sa (sa v 91 H) 84 (rs G 8 ((p : Nat) : Int))) (some (vI (Bi (pRdS (v 90) n 45 p H).1))) N T (sa (sa v 91 ((pRdS (v 90) n 45 p H).2.2)) 84 (rs G 8 (((pRdS (v 90) n 45 p H).2.1 : Nat) : Int))) := by
  refine Runs.of (by decide) (Nat.le_of_ble_eq_true rfl) fun κ C => ?_
  refine M_iload_n (pc := 0) C dX8_reads_0 rfl ?_
  refine M_lookup (pc := 1) C (off := 34) (tgt := 35) (by decide) (by decide) rfl dX8_reads_1 rfl ?_
  refine M_aload_n (pc := 35) C dX8_reads_35 rfl (by decide) ?_
  refine M_iconst (pc := 36) C dX8_reads_36 ?_
  refine M_iconst (pc := 37) C dX8_reads_37 ?_
  refine A_cV (pc := 38) C (x := vI (Bi (pSee (v 90) n p (48 + 0) 57))) (a := 84) (c := 8) (c_X8_digit hT (v := v) (H := H) (G := G) (n := n) (p := p) hl hn (by omega) (k := 0) (l := 0) (by omega) (by omega)) yw_X8_digit lk_X8_173 rfl (congrArg Prod.fst (tt_84 hT)) hc_8 rfl dX8_reads_38 rfl (Nat.le_of_ble_eq_true rfl) (by decide) ⟨Nat.le_refl _, Nat.le_refl _⟩ ?_
  exact M_zret (pc := 41) C rfl (Bi_01 _) dX8_reads_41 rfl rfl
theorem c_X8_reads {N : Nat} {T : Ty} {H G : Nat → Int} {n p : Nat} {x : Int} {v : Ct} (hT : TT T) (hl : G 7 = (n : Int)) (hn : n ≤ 60) (hp : p ≤ n) (hx : x = 43 ∨ x = 45 ∨ x = 60 ∨ x = 62) : Runs mX8_reads 4 0 0 [vR 84, vI x] N T (sa (sa v 91 H) 84 (rs G 8 ((p : Nat) : Int))) (some (vI (Bi (pRdS (v 90) n x p H).1))) N T (sa (sa v 91 ((pRdS (v 90) n x p H).2.2)) 84 (rs G 8 (((pRdS (v 90) n x p H).2.1 : Nat) : Int))) := by
  rcases hx with rfl | rfl | rfl | rfl
  · exact c_X8_reads_43 hT hl hn hp
  · exact c_X8_reads_45 hT hl hn hp
  · exact c_X8_reads_60 hT hl hn hp
  · exact c_X8_reads_62 hT hl hn hp
theorem c_X8_reading {N : Nat} {T : Ty} {H G : Nat → Int} {n p : Nat} {v : Ct} (hT : TT T) (hl : G 7 = (n : Int)) (hn : n ≤ 60) (hp : p ≤ n) : Runs mX8_reading 5 0 0 [vR 84] N T (sa (sa v 91 H) 84 (rs G 8 ((p : Nat) : Int))) (some (vI (pRk (v 90) n p H))) N T (sa (sa v 91 (pRh (v 90) n p H)) 84 (rs G 8 ((pRp (v 90) n p H : Nat) : Int))) := by
  refine Runs.of (by decide) (Nat.le_of_ble_eq_true rfl) fun κ C => ?_
  refine M_aload_n (pc := 0) C dX8_reading_0 rfl (by decide) ?_
  refine A_getI (pc := 1) C fl_X8_167 rfl (a := 84) rfl (tt_84 hT) dX8_reading_1 (fun (r_1 : i32 ((rs G 8 ((p : Nat) : Int)) 8)) => ?_)
  refine M.to (pc := 4) (st2 := [vI ((rs G 8 ((p : Nat) : Int)) 8)]) ?_ rfl rfl rfl
  refine M.to (pc := 4) (st2 := [vI ((p : Nat) : Int)]) ?_ rfl (by rw [rs_eq]) rfl
  refine M_aload_n (pc := 4) C dX8_reading_4 rfl (by decide) ?_
  refine A_getI (pc := 5) C fl_X8_164 rfl (a := 84) rfl (tt_84 hT) dX8_reading_5 (fun (r_5 : i32 ((rs G 8 ((p : Nat) : Int)) 7)) => ?_)
  refine M.to (pc := 8) (st2 := [vI ((rs G 8 ((p : Nat) : Int)) 7), vI ((p : Nat) : Int)]) ?_ rfl rfl rfl
  refine M.to (pc := 8) (st2 := [vI ((n : Nat) : Int), vI ((p : Nat) : Int)]) ?_ rfl (by rw [rs_ne (by decide), hl]) rfl
  refine M_icmp_ge (pc := 8) C (tgt := 23) (by omega) (by omega) dX8_reading_8 (by decide) (fun h_8 => ?_) (fun h_8 => ?_)
  · refine M_iconst (pc := 23) C dX8_reading_23 ?_
    refine M_istore_n (pc := 24) C dX8_reading_24 (by decide) ?_
    refine M_iload_n (pc := 25) C dX8_reading_25 rfl ?_
    refine M_bipush (pc := 26) C (by decide) dX8_reading_26 ?_
    refine M_icmp_eq (pc := 28) C (tgt := 51) (by decide) (by decide) dX8_reading_28 (by decide) (fun h => absurd h (by decide)) (fun _ => ?_)
    refine M_iload_n (pc := 31) C dX8_reading_31 rfl ?_
    refine M_bipush (pc := 32) C (by decide) dX8_reading_32 ?_
    refine M_icmp_eq (pc := 34) C (tgt := 51) (by decide) (by decide) dX8_reading_34 (by decide) (fun h => absurd h (by decide)) (fun _ => ?_)
    refine M_iload_n (pc := 37) C dX8_reading_37 rfl ?_
    refine M_bipush (pc := 38) C (by decide) dX8_reading_38 ?_
    refine M_icmp_eq (pc := 40) C (tgt := 51) (by decide) (by decide) dX8_reading_40 (by decide) (fun h => absurd h (by decide)) (fun _ => ?_)
    refine M_iload_n (pc := 43) C dX8_reading_43 rfl ?_
    refine M_bipush (pc := 44) C (by decide) dX8_reading_44 ?_
    refine M_icmp_eq (pc := 46) C (tgt := 51) (by decide) (by decide) dX8_reading_46 (by decide) (fun h => absurd h (by decide)) (fun _ => ?_)
    have hsg : ¬ (decide (p < n) && pSg (v 90 p)) = true := by unfold pSg; simp only [Bool.and_eq_true, decide_eq_true_eq]; omega
    have e1 : pRk (v 90) n p H = 0 := if_neg hsg
    have e2 : pRp (v 90) n p H = p := if_neg hsg
    have e3 : pRh (v 90) n p H = H := if_neg hsg
    refine M_iconst (pc := 49) C dX8_reading_49 ?_
    exact M_iret (pc := 50) C rfl dX8_reading_50 (by rw [e1]) (by rw [e2, e3])
  · refine M_aload_n (pc := 11) C dX8_reading_11 rfl (by decide) ?_
    refine A_getR (pc := 12) C fl_X8_26 rfl (a := 84) (j := 90) rfl (tt_84 hT) rfl dX8_reading_12 ?_
    refine M_aload_n (pc := 15) C dX8_reading_15 rfl (by decide) ?_
    refine A_getI (pc := 16) C fl_X8_167 rfl (a := 84) rfl (tt_84 hT) dX8_reading_16 (fun (r_16 : i32 ((rs G 8 ((p : Nat) : Int)) 8)) => ?_)
    refine M.to (pc := 19) (st2 := [vI ((rs G 8 ((p : Nat) : Int)) 8), vR 90]) ?_ rfl rfl rfl
    refine M.to (pc := 19) (st2 := [vI ((p : Nat) : Int), vR 90]) ?_ rfl (by rw [rs_eq]) rfl
    refine A_iald (pc := 19) C (a := 90) (q := p) rfl (tt_90 hT) (by decide) (by omega) (by omega) dX8_reading_19 (fun (r_19 : i32 (v 90 p)) => ?_)
    refine M.to (pc := 20) (st2 := [vI (v 90 p)]) ?_ rfl rfl rfl
    refine M_goto (pc := 20) C (tgt := 24) dX8_reading_20 (by decide) ?_
    refine M_istore_n (pc := 24) C dX8_reading_24 (by decide) ?_
    refine M_iload_n (pc := 25) C dX8_reading_25 rfl ?_
    refine M_bipush (pc := 26) C (by decide) dX8_reading_26 ?_
    refine M_icmp_eq (pc := 28) C (tgt := 51) (by omega) (by omega) dX8_reading_28 (by decide) (fun h_28 => ?_) (fun h_28 => ?_)
    · have hsg : (decide (p < n) && pSg (v 90 p)) = true := by unfold pSg; simp only [Bool.and_eq_true, decide_eq_true_eq]; omega
      have e1 : pRk (v 90) n p H = (if (pRdS (v 90) n (v 90 p) (p + 1) H).1 = true then v 90 p else 0) := if_pos hsg
      have e2 : pRp (v 90) n p H = (pRdS (v 90) n (v 90 p) (p + 1) H).2.1 := if_pos hsg
      have e3 : pRh (v 90) n p H = (pRdS (v 90) n (v 90 p) (p + 1) H).2.2 := if_pos hsg
      refine M_aload_n (pc := 51) C dX8_reading_51 rfl (by decide) ?_
      refine M_dup (pc := 52) C rfl dX8_reading_52 ?_
      refine A_getI (pc := 53) C fl_X8_167 rfl (a := 84) rfl (tt_84 hT) dX8_reading_53 (fun (r_53 : i32 ((rs G 8 ((p : Nat) : Int)) 8)) => ?_)
      refine M.to (pc := 56) (st2 := [vI ((rs G 8 ((p : Nat) : Int)) 8), vR 84]) ?_ rfl rfl rfl
      refine M.to (pc := 56) (st2 := [vI ((p : Nat) : Int), vR 84]) ?_ rfl (by rw [rs_eq]) rfl
      refine M_iconst (pc := 56) C dX8_reading_56 ?_
      refine M_iadd (pc := 57) C dX8_reading_57 ?_
      refine A_putI (pc := 58) C fl_X8_167 rfl (by decide) (a := 84) rfl (tt_84 hT) (by omega) dX8_reading_58 ?_
      refine M.to (pc := 61) (v2 := sa (sa v 91 H) 84 (rs (rs G 8 ((p : Nat) : Int)) 8 (((p : Nat) : Int) + 1))) ?_ rfl rfl (by rw [sa_up0])
      refine M.to (pc := 61) (v2 := sa (sa v 91 H) 84 (rs G 8 ((p + 1 : Nat) : Int))) ?_ rfl rfl (by rw [rs_rs]; rfl)
      refine M_aload_n (pc := 61) C dX8_reading_61 rfl (by decide) ?_
      refine M_iload_n (pc := 62) C dX8_reading_62 rfl ?_
      refine A_cV (pc := 63) C (x := vI (Bi (pRdS (v 90) n (v 90 p) (p + 1) H).1)) (a := 84) (c := 8) (c_X8_reads hT (v := v) (H := H) (G := G) (n := n) (p := p + 1) hl hn (by omega) (x := v 90 p) (by omega)) yw_X8_reads lk_X8_182 rfl (congrArg Prod.fst (tt_84 hT)) hc_8 rfl dX8_reading_63 rfl (Nat.le_of_ble_eq_true rfl) (by decide) ⟨Nat.le_refl _, Nat.le_refl _⟩ ?_
      refine M_if_eq (pc := 66) C (tgt := 73) (Bi_i32 _) dX8_reading_66 (by decide) (fun h_66 => ?_) (fun h_66 => ?_)
      · have b_66 := Bi_eq0 h_66
        refine M_iconst (pc := 73) C dX8_reading_73 ?_
        exact M_iret (pc := 74) C rfl dX8_reading_74 (by rw [e1]; first | rw [if_pos b_66] | rw [if_neg (by rw [b_66]; decide)]) (by rw [e2, e3])
      · have b_66 := Bi_ne0 h_66
        refine M_iload_n (pc := 69) C dX8_reading_69 rfl ?_
        refine M_goto (pc := 70) C (tgt := 74) dX8_reading_70 (by decide) ?_
        exact M_iret (pc := 74) C rfl dX8_reading_74 (by rw [e1]; first | rw [if_pos b_66] | rw [if_neg (by rw [b_66]; decide)]) (by rw [e2, e3])
    · refine M_iload_n (pc := 31) C dX8_reading_31 rfl ?_
      refine M_bipush (pc := 32) C (by decide) dX8_reading_32 ?_
      refine M_icmp_eq (pc := 34) C (tgt := 51) (by omega) (by omega) dX8_reading_34 (by decide) (fun h_34 => ?_) (fun h_34 => ?_)
      · have hsg : (decide (p < n) && pSg (v 90 p)) = true := by unfold pSg; simp only [Bool.and_eq_true, decide_eq_true_eq]; omega
        have e1 : pRk (v 90) n p H = (if (pRdS (v 90) n (v 90 p) (p + 1) H).1 = true then v 90 p else 0) := if_pos hsg
        have e2 : pRp (v 90) n p H = (pRdS (v 90) n (v 90 p) (p + 1) H).2.1 := if_pos hsg
        have e3 : pRh (v 90) n p H = (pRdS (v 90) n (v 90 p) (p + 1) H).2.2 := if_pos hsg
        refine M_aload_n (pc := 51) C dX8_reading_51 rfl (by decide) ?_
        refine M_dup (pc := 52) C rfl dX8_reading_52 ?_
        refine A_getI (pc := 53) C fl_X8_167 rfl (a := 84) rfl (tt_84 hT) dX8_reading_53 (fun (r_53 : i32 ((rs G 8 ((p : Nat) : Int)) 8)) => ?_)
        refine M.to (pc := 56) (st2 := [vI ((rs G 8 ((p : Nat) : Int)) 8), vR 84]) ?_ rfl rfl rfl
        refine M.to (pc := 56) (st2 := [vI ((p : Nat) : Int), vR 84]) ?_ rfl (by rw [rs_eq]) rfl
        refine M_iconst (pc := 56) C dX8_reading_56 ?_
        refine M_iadd (pc := 57) C dX8_reading_57 ?_
        refine A_putI (pc := 58) C fl_X8_167 rfl (by decide) (a := 84) rfl (tt_84 hT) (by omega) dX8_reading_58 ?_
        refine M.to (pc := 61) (v2 := sa (sa v 91 H) 84 (rs (rs G 8 ((p : Nat) : Int)) 8 (((p : Nat) : Int) + 1))) ?_ rfl rfl (by rw [sa_up0])
        refine M.to (pc := 61) (v2 := sa (sa v 91 H) 84 (rs G 8 ((p + 1 : Nat) : Int))) ?_ rfl rfl (by rw [rs_rs]; rfl)
        refine M_aload_n (pc := 61) C dX8_reading_61 rfl (by decide) ?_
        refine M_iload_n (pc := 62) C dX8_reading_62 rfl ?_
        refine A_cV (pc := 63) C (x := vI (Bi (pRdS (v 90) n (v 90 p) (p + 1) H).1)) (a := 84) (c := 8) (c_X8_reads hT (v := v) (H := H) (G := G) (n := n) (p := p + 1) hl hn (by omega) (x := v 90 p) (by omega)) yw_X8_reads lk_X8_182 rfl (congrArg Prod.fst (tt_84 hT)) hc_8 rfl dX8_reading_63 rfl (Nat.le_of_ble_eq_true rfl) (by decide) ⟨Nat.le_refl _, Nat.le_refl _⟩ ?_
        refine M_if_eq (pc := 66) C (tgt := 73) (Bi_i32 _) dX8_reading_66 (by decide) (fun h_66 => ?_) (fun h_66 => ?_)
        · have b_66 := Bi_eq0 h_66
          refine M_iconst (pc := 73) C dX8_reading_73 ?_
          exact M_iret (pc := 74) C rfl dX8_reading_74 (by rw [e1]; first | rw [if_pos b_66] | rw [if_neg (by rw [b_66]; decide)]) (by rw [e2, e3])
        · have b_66 := Bi_ne0 h_66
          refine M_iload_n (pc := 69) C dX8_reading_69 rfl ?_
          refine M_goto (pc := 70) C (tgt := 74) dX8_reading_70 (by decide) ?_
          exact M_iret (pc := 74) C rfl dX8_reading_74 (by rw [e1]; first | rw [if_pos b_66] | rw [if_neg (by rw [b_66]; decide)]) (by rw [e2, e3])
      · refine M_iload_n (pc := 37) C dX8_reading_37 rfl ?_
        refine M_bipush (pc := 38) C (by decide) dX8_reading_38 ?_
        refine M_icmp_eq (pc := 40) C (tgt := 51) (by omega) (by omega) dX8_reading_40 (by decide) (fun h_40 => ?_) (fun h_40 => ?_)
        · have hsg : (decide (p < n) && pSg (v 90 p)) = true := by unfold pSg; simp only [Bool.and_eq_true, decide_eq_true_eq]; omega
          have e1 : pRk (v 90) n p H = (if (pRdS (v 90) n (v 90 p) (p + 1) H).1 = true then v 90 p else 0) := if_pos hsg
          have e2 : pRp (v 90) n p H = (pRdS (v 90) n (v 90 p) (p + 1) H).2.1 := if_pos hsg
          have e3 : pRh (v 90) n p H = (pRdS (v 90) n (v 90 p) (p + 1) H).2.2 := if_pos hsg
          refine M_aload_n (pc := 51) C dX8_reading_51 rfl (by decide) ?_
          refine M_dup (pc := 52) C rfl dX8_reading_52 ?_
          refine A_getI (pc := 53) C fl_X8_167 rfl (a := 84) rfl (tt_84 hT) dX8_reading_53 (fun (r_53 : i32 ((rs G 8 ((p : Nat) : Int)) 8)) => ?_)
          refine M.to (pc := 56) (st2 := [vI ((rs G 8 ((p : Nat) : Int)) 8), vR 84]) ?_ rfl rfl rfl
          refine M.to (pc := 56) (st2 := [vI ((p : Nat) : Int), vR 84]) ?_ rfl (by rw [rs_eq]) rfl
          refine M_iconst (pc := 56) C dX8_reading_56 ?_
          refine M_iadd (pc := 57) C dX8_reading_57 ?_
          refine A_putI (pc := 58) C fl_X8_167 rfl (by decide) (a := 84) rfl (tt_84 hT) (by omega) dX8_reading_58 ?_
          refine M.to (pc := 61) (v2 := sa (sa v 91 H) 84 (rs (rs G 8 ((p : Nat) : Int)) 8 (((p : Nat) : Int) + 1))) ?_ rfl rfl (by rw [sa_up0])
          refine M.to (pc := 61) (v2 := sa (sa v 91 H) 84 (rs G 8 ((p + 1 : Nat) : Int))) ?_ rfl rfl (by rw [rs_rs]; rfl)
          refine M_aload_n (pc := 61) C dX8_reading_61 rfl (by decide) ?_
          refine M_iload_n (pc := 62) C dX8_reading_62 rfl ?_
          refine A_cV (pc := 63) C (x := vI (Bi (pRdS (v 90) n (v 90 p) (p + 1) H).1)) (a := 84) (c := 8) (c_X8_reads hT (v := v) (H := H) (G := G) (n := n) (p := p + 1) hl hn (by omega) (x := v 90 p) (by omega)) yw_X8_reads lk_X8_182 rfl (congrArg Prod.fst (tt_84 hT)) hc_8 rfl dX8_reading_63 rfl (Nat.le_of_ble_eq_true rfl) (by decide) ⟨Nat.le_refl _, Nat.le_refl _⟩ ?_
          refine M_if_eq (pc := 66) C (tgt := 73) (Bi_i32 _) dX8_reading_66 (by decide) (fun h_66 => ?_) (fun h_66 => ?_)
          · have b_66 := Bi_eq0 h_66
            refine M_iconst (pc := 73) C dX8_reading_73 ?_
            exact M_iret (pc := 74) C rfl dX8_reading_74 (by rw [e1]; first | rw [if_pos b_66] | rw [if_neg (by rw [b_66]; decide)]) (by rw [e2, e3])
          · have b_66 := Bi_ne0 h_66
            refine M_iload_n (pc := 69) C dX8_reading_69 rfl ?_
            refine M_goto (pc := 70) C (tgt := 74) dX8_reading_70 (by decide) ?_
            exact M_iret (pc := 74) C rfl dX8_reading_74 (by rw [e1]; first | rw [if_pos b_66] | rw [if_neg (by rw [b_66]; decide)]) (by rw [e2, e3])
        · refine M_iload_n (pc := 43) C dX8_reading_43 rfl ?_
          refine M_bipush (pc := 44) C (by decide) dX8_reading_44 ?_
          refine M_icmp_eq (pc := 46) C (tgt := 51) (by omega) (by omega) dX8_reading_46 (by decide) (fun h_46 => ?_) (fun h_46 => ?_)
          · have hsg : (decide (p < n) && pSg (v 90 p)) = true := by unfold pSg; simp only [Bool.and_eq_true, decide_eq_true_eq]; omega
            have e1 : pRk (v 90) n p H = (if (pRdS (v 90) n (v 90 p) (p + 1) H).1 = true then v 90 p else 0) := if_pos hsg
            have e2 : pRp (v 90) n p H = (pRdS (v 90) n (v 90 p) (p + 1) H).2.1 := if_pos hsg
            have e3 : pRh (v 90) n p H = (pRdS (v 90) n (v 90 p) (p + 1) H).2.2 := if_pos hsg
            refine M_aload_n (pc := 51) C dX8_reading_51 rfl (by decide) ?_
            refine M_dup (pc := 52) C rfl dX8_reading_52 ?_
            refine A_getI (pc := 53) C fl_X8_167 rfl (a := 84) rfl (tt_84 hT) dX8_reading_53 (fun (r_53 : i32 ((rs G 8 ((p : Nat) : Int)) 8)) => ?_)
            refine M.to (pc := 56) (st2 := [vI ((rs G 8 ((p : Nat) : Int)) 8), vR 84]) ?_ rfl rfl rfl
            refine M.to (pc := 56) (st2 := [vI ((p : Nat) : Int), vR 84]) ?_ rfl (by rw [rs_eq]) rfl
            refine M_iconst (pc := 56) C dX8_reading_56 ?_
            refine M_iadd (pc := 57) C dX8_reading_57 ?_
            refine A_putI (pc := 58) C fl_X8_167 rfl (by decide) (a := 84) rfl (tt_84 hT) (by omega) dX8_reading_58 ?_
            refine M.to (pc := 61) (v2 := sa (sa v 91 H) 84 (rs (rs G 8 ((p : Nat) : Int)) 8 (((p : Nat) : Int) + 1))) ?_ rfl rfl (by rw [sa_up0])
            refine M.to (pc := 61) (v2 := sa (sa v 91 H) 84 (rs G 8 ((p + 1 : Nat) : Int))) ?_ rfl rfl (by rw [rs_rs]; rfl)
            refine M_aload_n (pc := 61) C dX8_reading_61 rfl (by decide) ?_
            refine M_iload_n (pc := 62) C dX8_reading_62 rfl ?_
            refine A_cV (pc := 63) C (x := vI (Bi (pRdS (v 90) n (v 90 p) (p + 1) H).1)) (a := 84) (c := 8) (c_X8_reads hT (v := v) (H := H) (G := G) (n := n) (p := p + 1) hl hn (by omega) (x := v 90 p) (by omega)) yw_X8_reads lk_X8_182 rfl (congrArg Prod.fst (tt_84 hT)) hc_8 rfl dX8_reading_63 rfl (Nat.le_of_ble_eq_true rfl) (by decide) ⟨Nat.le_refl _, Nat.le_refl _⟩ ?_
            refine M_if_eq (pc := 66) C (tgt := 73) (Bi_i32 _) dX8_reading_66 (by decide) (fun h_66 => ?_) (fun h_66 => ?_)
            · have b_66 := Bi_eq0 h_66
              refine M_iconst (pc := 73) C dX8_reading_73 ?_
              exact M_iret (pc := 74) C rfl dX8_reading_74 (by rw [e1]; first | rw [if_pos b_66] | rw [if_neg (by rw [b_66]; decide)]) (by rw [e2, e3])
            · have b_66 := Bi_ne0 h_66
              refine M_iload_n (pc := 69) C dX8_reading_69 rfl ?_
              refine M_goto (pc := 70) C (tgt := 74) dX8_reading_70 (by decide) ?_
              exact M_iret (pc := 74) C rfl dX8_reading_74 (by rw [e1]; first | rw [if_pos b_66] | rw [if_neg (by rw [b_66]; decide)]) (by rw [e2, e3])
          · have hsg : ¬ (decide (p < n) && pSg (v 90 p)) = true := by unfold pSg; simp only [Bool.and_eq_true, decide_eq_true_eq]; omega
            have e1 : pRk (v 90) n p H = 0 := if_neg hsg
            have e2 : pRp (v 90) n p H = p := if_neg hsg
            have e3 : pRh (v 90) n p H = H := if_neg hsg
            refine M_iconst (pc := 49) C dX8_reading_49 ?_
            exact M_iret (pc := 50) C rfl dX8_reading_50 (by rw [e1]) (by rw [e2, e3])
theorem c_X8_isWell {N : Nat} {T : Ty} {H G : Nat → Int} {n : Nat} {v : Ct} (hT : TT T) (hl : G 7 = (n : Int)) (hn : n ≤ 60) : Runs mX8_isWell 6 0 0 [vR 84] N T (sa (sa v 91 H) 84 G) (some (vI (Bi (wlI (v 90) n H 60).1))) N T (sa (sa v 91 ((wlI (v 90) n H 60).2.2)) 84 (rs G 8 (((wlI (v 90) n H 60).2.1 : Nat) : Int))) := by
  refine Runs.of (by decide) (Nat.le_of_ble_eq_true rfl) fun κ C => ?_
  refine M_aload_n (pc := 0) C dX8_isWell_0 rfl (by decide) ?_
  refine M_iconst (pc := 1) C dX8_isWell_1 ?_
  refine A_putI (pc := 2) C fl_X8_167 rfl (by decide) (a := 84) rfl (tt_84 hT) (by omega) dX8_isWell_2 ?_
  refine M.to (pc := 5) (v2 := sa (sa v 91 H) 84 (rs G 8 0)) ?_ rfl rfl (by rw [sa_up0])
  refine M_aload_n (pc := 5) C dX8_isWell_5 rfl (by decide) ?_
  refine A_cV (pc := 6) C (x := vI (pRk (v 90) n 0 H)) (a := 84) (c := 8) (c_X8_reading hT (v := v) (H := H) (G := G) (n := n) (p := 0) hl hn (by omega)) yw_X8_reading lk_X8_185 rfl (congrArg Prod.fst (tt_84 hT)) hc_8 rfl dX8_isWell_6 rfl (Nat.le_of_ble_eq_true rfl) (by decide) ⟨Nat.le_refl _, Nat.le_refl _⟩ ?_
  have hrk_6 := pRk_bd (U := (v 90)) (n := n) (p := 0) (H := H)
  refine T_if_eq (pc := 9) C (by omega) dX8_isWell_9 dX8_isWell_12 dX8_isWell_13 dX8_isWell_16 ?_
  refine M_istore_n (pc := 17) C dX8_isWell_17 (by decide) ?_
  refine M.to (L2 := [some (vR 84), some (vI (Bi (wlI (v 90) n H 0).1))]) (v2 := sa (sa v 91 ((wlI (v 90) n H 0).2.2)) 84 (rs G 8 (((wlI (v 90) n H 0).2.1 : Nat) : Int))) ?_ rfl rfl rfl
  refine loop_le (P := fun i => M κ N T 18 [some (vR 84), some (vI (Bi (wlI (v 90) n H i).1))] [] (sa (sa v 91 ((wlI (v 90) n H i).2.2)) 84 (rs G 8 (((wlI (v 90) n H i).2.1 : Nat) : Int))) 0 0 (QR κ (some (vI (Bi (wlI (v 90) n H 60).1))) N T (sa (sa v 91 ((wlI (v 90) n H 60).2.2)) 84 (rs G 8 (((wlI (v 90) n H 60).2.1 : Nat) : Int))) 0 0)) 60 (fun i hi ih => ?_)
  have hq := wlI_bd (U := v 90) (n := n) (H := H) i
  refine M_iload_n (pc := 18) C dX8_isWell_18 rfl ?_
  refine M_if_eq (pc := 19) C (tgt := 58) (Bi_i32 _) dX8_isWell_19 (by decide) (fun h_19 => ?_) (fun h_19 => ?_)
  · have b_19 := Bi_eq0 h_19
    have hC : wlC n (wlI (v 90) n H i) = false := by unfold wlC; rw [b_19, Bool.false_and]
    refine M_iload_n (pc := 58) C dX8_isWell_58 rfl ?_
    exact M_zret (pc := 59) C rfl (Bi_01 _) dX8_isWell_59 (by rw [wlI_e hC (by omega)]) (by rw [wlI_e hC (by omega)])
  · have b_19 := Bi_ne0 h_19
    refine M_aload_n (pc := 22) C dX8_isWell_22 rfl (by decide) ?_
    refine A_getI (pc := 23) C fl_X8_167 rfl (a := 84) rfl (tt_84 hT) dX8_isWell_23 (fun (r_23 : i32 ((rs G 8 (((wlI (v 90) n H i).2.1 : Nat) : Int)) 8)) => ?_)
    refine M.to (pc := 26) (st2 := [vI ((rs G 8 (((wlI (v 90) n H i).2.1 : Nat) : Int)) 8)]) ?_ rfl rfl rfl
    refine M.to (pc := 26) (st2 := [vI (((wlI (v 90) n H i).2.1 : Nat) : Int)]) ?_ rfl (by rw [rs_eq]) rfl
    refine M_aload_n (pc := 26) C dX8_isWell_26 rfl (by decide) ?_
    refine A_getI (pc := 27) C fl_X8_164 rfl (a := 84) rfl (tt_84 hT) dX8_isWell_27 (fun (r_27 : i32 ((rs G 8 (((wlI (v 90) n H i).2.1 : Nat) : Int)) 7)) => ?_)
    refine M.to (pc := 30) (st2 := [vI ((rs G 8 (((wlI (v 90) n H i).2.1 : Nat) : Int)) 7), vI (((wlI (v 90) n H i).2.1 : Nat) : Int)]) ?_ rfl rfl rfl
    refine M.to (pc := 30) (st2 := [vI ((n : Nat) : Int), vI (((wlI (v 90) n H i).2.1 : Nat) : Int)]) ?_ rfl (by rw [rs_ne (by decide), hl]) rfl
    refine M_icmp_ge (pc := 30) C (tgt := 58) (by omega) (by omega) dX8_isWell_30 (by decide) (fun h_30 => ?_) (fun h_30 => ?_)
    · have hC : wlC n (wlI (v 90) n H i) = false := by unfold wlC; rw [decide_eq_false (by omega), Bool.and_false]
      refine M_iload_n (pc := 58) C dX8_isWell_58 rfl ?_
      exact M_zret (pc := 59) C rfl (Bi_01 _) dX8_isWell_59 (by rw [wlI_e hC (by omega)]) (by rw [wlI_e hC (by omega)])
    · have hC : wlC n (wlI (v 90) n H i) = true := by unfold wlC; rw [b_19, decide_eq_true (by omega)]; rfl
      refine M_aload_n (pc := 33) C dX8_isWell_33 rfl (by decide) ?_
      refine M_bipush (pc := 34) C (by decide) dX8_isWell_34 ?_
      refine A_cV (pc := 36) C (x := vI (Bi (pSee (v 90) n ((wlI (v 90) n H i).2.1) 59 59))) (a := 84) (c := 8) (c_X8_takes hT (v := v) (H := (wlI (v 90) n H i).2.2) (G := G) (n := n) (p := (wlI (v 90) n H i).2.1) hl hn (by omega) (c := 59) (by omega)) yw_X8_takes lk_X8_179 rfl (congrArg Prod.fst (tt_84 hT)) hc_8 rfl dX8_isWell_36 rfl (Nat.le_of_ble_eq_true rfl) (by decide) ⟨Nat.le_refl _, Nat.le_refl _⟩ ?_
      refine M_if_eq (pc := 39) C (tgt := 53) (Bi_i32 _) dX8_isWell_39 (by decide) (fun h_39 => ?_) (fun h_39 => ?_)
      · have b_39 := Bi_eq0 h_39
        have e1 : pTk (v 90) n (wlI (v 90) n H i).2.1 59 = (wlI (v 90) n H i).2.1 := if_neg (by rw [b_39]; decide)
        have hE : wlT (v 90) n (wlI (v 90) n H i) = (false, (wlI (v 90) n H i).2) := if_neg (by rw [b_39]; decide)
        refine M.to (v2 := sa (sa v 91 ((wlI (v 90) n H i).2.2)) 84 (rs G 8 (((wlI (v 90) n H i).2.1 : Nat) : Int))) ?_ rfl rfl (by rw [e1])
        refine M_iconst (pc := 53) C dX8_isWell_53 ?_
        refine M_istore_n (pc := 54) C dX8_isWell_54 (by decide) ?_
        refine M_goto (pc := 55) C (tgt := 18) dX8_isWell_55 (by decide) ?_
        exact M.to (ih (by have := wlI_mu hC; omega)) (by rw [wlI_s hC, hE]; rfl) rfl (by rw [wlI_s hC, hE])
      · have b_39 := Bi_ne0 h_39
        have hs1 := pSee_lt b_39
        have e1 : pTk (v 90) n (wlI (v 90) n H i).2.1 59 = (wlI (v 90) n H i).2.1 + 1 := if_pos b_39
        have hE : wlT (v 90) n (wlI (v 90) n H i) = (decide (pRk (v 90) n ((wlI (v 90) n H i).2.1 + 1) (wlI (v 90) n H i).2.2 ≠ 0), pRp (v 90) n ((wlI (v 90) n H i).2.1 + 1) (wlI (v 90) n H i).2.2, pRh (v 90) n ((wlI (v 90) n H i).2.1 + 1) (wlI (v 90) n H i).2.2) := if_pos b_39
        refine M.to (v2 := sa (sa v 91 ((wlI (v 90) n H i).2.2)) 84 (rs G 8 (((wlI (v 90) n H i).2.1 + 1 : Nat) : Int))) ?_ rfl rfl (by rw [e1])
        refine M_aload_n (pc := 42) C dX8_isWell_42 rfl (by decide) ?_
        refine A_cV (pc := 43) C (x := vI (pRk (v 90) n ((wlI (v 90) n H i).2.1 + 1) ((wlI (v 90) n H i).2.2))) (a := 84) (c := 8) (c_X8_reading hT (v := v) (H := (wlI (v 90) n H i).2.2) (G := G) (n := n) (p := (wlI (v 90) n H i).2.1 + 1) hl hn (by omega)) yw_X8_reading lk_X8_185 rfl (congrArg Prod.fst (tt_84 hT)) hc_8 rfl dX8_isWell_43 rfl (Nat.le_of_ble_eq_true rfl) (by decide) ⟨Nat.le_refl _, Nat.le_refl _⟩ ?_
        have hrk_43 := pRk_bd (U := (v 90)) (n := n) (p := (wlI (v 90) n H i).2.1 + 1) (H := (wlI (v 90) n H i).2.2)
        refine T_if_eq (pc := 46) C (by omega) dX8_isWell_46 dX8_isWell_49 dX8_isWell_50 dX8_isWell_53 ?_
        refine M_istore_n (pc := 54) C dX8_isWell_54 (by decide) ?_
        refine M_goto (pc := 55) C (tgt := 18) dX8_isWell_55 (by decide) ?_
        exact M.to (ih (by have := wlI_mu hC; omega)) (by rw [wlI_s hC, hE]; rfl) rfl (by rw [wlI_s hC, hE])
