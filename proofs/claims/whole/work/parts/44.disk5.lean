theorem c_X0_freeIfEmpty {N : Nat} {T : Ty} {P W S B Z Rk O K G : Nat → Int} {b : Nat} {v : Ct} (hT : TT T) (hD : DI Z B S W) (hb : b < 24) : Runs mX0_freeIfEmpty 1 0 0 [vR 1, vI ((b : Nat) : Int)] N T (sa (sa (sa (sa (sa (sa (sa (sa (sa v 9 P) 8 W) 7 S) 6 B) 5 Z) 4 Rk) 3 O) 2 K) 1 G) (some (vI (feV K Z B S b))) N T (sa (sa (sa (sa (sa (sa (sa (sa (sa v 9 P) 8 W) 7 S) 6 B) 5 Z) 4 Rk) 3 O) 2 (feK K Z B S b)) 1 G) := by
  refine Runs.of (by decide) (Nat.le_of_ble_eq_true rfl) fun κ C => ?_
  refine M_iload_n (pc := 0) C dX0_freeIfEmpty_0 rfl ?_
  refine A_cS (pc := 1) C (x := vI (Bi (decide (0 ≤ ((b : Nat) : Int) ∧ ((b : Nat) : Int) < 24)))) (c_X7_isBlock hT (b := ((b : Nat) : Int)) (by omega)) yw_X7_isBlock lk_X0_54 rfl dX0_freeIfEmpty_1 rfl (Nat.le_of_ble_eq_true rfl) (by decide) ⟨Nat.le_refl _, Nat.le_refl _⟩ ?_
  refine M_if_eq (pc := 4) C (tgt := 26) (Bi_i32 _) dX0_freeIfEmpty_4 (by decide) (fun h_4 => ?_) (fun h_4 => ?_)
  · have b_4 := Bid_eq0 h_4
    exfalso
    omega
  · have b_4 := Bid_ne0 h_4
    refine M_aload_n (pc := 7) C dX0_freeIfEmpty_7 rfl (by decide) ?_
    refine A_getR (pc := 8) C fl_X0_9 rfl (a := 1) (j := 2) rfl (tt_1 hT) (by decide) dX0_freeIfEmpty_8 ?_
    refine M_iload_n (pc := 11) C dX0_freeIfEmpty_11 rfl ?_
    refine A_iald (pc := 12) C (a := 2) (q := b) rfl (tt_2 hT) (by decide) rfl (by omega) dX0_freeIfEmpty_12 (fun (r_12 : i32 (K b)) => ?_)
    refine M.to (pc := 13) (st2 := [vI (K b)]) ?_ rfl rfl rfl
    refine M_iconst (pc := 13) C dX0_freeIfEmpty_13 ?_
    refine M_icmp_ne (pc := 14) C (tgt := 26) (by omega) (by omega) dX0_freeIfEmpty_14 (by decide) (fun h_14 => ?_) (fun h_14 => ?_)
    · refine M_iconst (pc := 26) C dX0_freeIfEmpty_26 ?_
      exact M_iret (pc := 27) C rfl dX0_freeIfEmpty_27 (by unfold feV; rw [if_neg (by omega)]) (by unfold feK; rw [if_neg (by omega)])
    · refine M_aload_n (pc := 17) C dX0_freeIfEmpty_17 rfl (by decide) ?_
      refine M_iload_n (pc := 18) C dX0_freeIfEmpty_18 rfl ?_
      refine M_iconst (pc := 19) C dX0_freeIfEmpty_19 ?_
      refine A_cV (pc := 20) C (x := vI ((tkA Z B S ((b : Nat) : Int) (-1) : Nat) : Int)) (a := 1) (c := 0) (c_X0_takenCells hT hD (b := ((b : Nat) : Int)) (lo := -1) (by omega) (by omega) (by omega)) yw_X0_takenCells lk_X0_63 rfl (congrArg Prod.fst (tt_1 hT)) hc_0 rfl dX0_freeIfEmpty_20 rfl (Nat.le_of_ble_eq_true rfl) (by decide) ⟨Nat.le_refl _, Nat.le_refl _⟩ ?_
      have htk_20 := tkA_bd (b := ((b : Nat) : Int)) (lo := -1) hD (by omega)
      refine M_if_eq (pc := 23) C (tgt := 28) (by omega) dX0_freeIfEmpty_23 (by decide) (fun h_23 => ?_) (fun h_23 => ?_)
      · refine M_aload_n (pc := 28) C dX0_freeIfEmpty_28 rfl (by decide) ?_
        refine A_getR (pc := 29) C fl_X0_9 rfl (a := 1) (j := 2) rfl (tt_1 hT) (by decide) dX0_freeIfEmpty_29 ?_
        refine M_iload_n (pc := 32) C dX0_freeIfEmpty_32 rfl ?_
        refine M_iconst (pc := 33) C dX0_freeIfEmpty_33 ?_
        refine A_iast (pc := 34) C (a := 2) (q := b) rfl (tt_2 hT) (by decide) rfl (by omega) (by omega) dX0_freeIfEmpty_34 ?_
        refine M.to (pc := 35) (v2 := sa (sa (sa (sa (sa (sa (sa (sa (sa v 9 P) 8 W) 7 S) 6 B) 5 Z) 4 Rk) 3 O) 2 (rs K b 0)) 1 G) ?_ rfl rfl (by rw [sa_up1 (by decide), sa_up0])
        refine M_iconst (pc := 35) C dX0_freeIfEmpty_35 ?_
        exact M_iret (pc := 36) C rfl dX0_freeIfEmpty_36 (by unfold feV; rw [if_pos (by omega)]) (by unfold feK; rw [if_pos (by omega)])
      · refine M_iconst (pc := 26) C dX0_freeIfEmpty_26 ?_
        exact M_iret (pc := 27) C rfl dX0_freeIfEmpty_27 (by unfold feV; rw [if_neg (by omega)]) (by unfold feK; rw [if_neg (by omega)])
theorem c_X0_freeIfEmpty_o {N : Nat} {T : Ty} {v : Ct} (hT : TT T)  : Runs mX0_freeIfEmpty 1 0 0 [vR 1, vI (-1)] N T v (some (vI 0)) N T v := by
  refine Runs.of (by decide) (Nat.le_of_ble_eq_true rfl) fun κ C => ?_
  refine M_iload_n (pc := 0) C dX0_freeIfEmpty_0 rfl ?_
  refine A_cS (pc := 1) C (x := vI (Bi (decide (0 ≤ -1 ∧ -1 < 24)))) (c_X7_isBlock hT (b := -1) (by omega)) yw_X7_isBlock lk_X0_54 rfl dX0_freeIfEmpty_1 rfl (Nat.le_of_ble_eq_true rfl) (by decide) ⟨Nat.le_refl _, Nat.le_refl _⟩ ?_
  refine M_if_eq (pc := 4) C (tgt := 26) (Bi_i32 _) dX0_freeIfEmpty_4 (by decide) (fun h_4 => ?_) (fun h_4 => ?_)
  · have b_4 := Bid_eq0 h_4
    refine M_iconst (pc := 26) C dX0_freeIfEmpty_26 ?_
    exact M_iret (pc := 27) C rfl dX0_freeIfEmpty_27 rfl rfl
  · have b_4 := Bid_ne0 h_4
    exfalso
    omega
theorem c_X0_dropTail_o {N : Nat} {T : Ty} {P W S B Z Rk O K G : Nat → Int} {f : Nat} {v : Ct} (hT : TT T) (hD : DI Z B S W) (hf : f < 10) (hz : Z f ≠ -1) (hB : B f = -1) : Runs mX0_dropTail 2 0 0 [vR 1, vI ((f : Nat) : Int)] N T (sa (sa (sa (sa (sa (sa (sa (sa (sa v 9 P) 8 W) 7 S) 6 B) 5 Z) 4 Rk) 3 O) 2 K) 1 G) (some (vI (dtV K Z B S f))) N T (sa (sa (sa (sa (sa (sa (sa (sa (sa v 9 P) 8 W) 7 (rs S f (-1))) 6 (rs B f (-1))) 5 Z) 4 Rk) 3 O) 2 (dtK K Z B S f)) 1 G) := by
  refine Runs.of (by decide) (Nat.le_of_ble_eq_true rfl) fun κ C => ?_
  refine M_aload_n (pc := 0) C dX0_dropTail_0 rfl (by decide) ?_
  refine M_iload_n (pc := 1) C dX0_dropTail_1 rfl ?_
  refine A_cV (pc := 2) C (x := vI (Bi (decide (Z f ≠ -1)))) (a := 1) (c := 0) (c_X0_exists_n hT (f := f) (by omega)) yw_X0_exists lk_X0_46 rfl (congrArg Prod.fst (tt_1 hT)) hc_0 rfl dX0_dropTail_2 rfl (Nat.le_of_ble_eq_true rfl) (by decide) ⟨Nat.le_refl _, Nat.le_refl _⟩ ?_
  refine M_rd (pc := 5) C 5 f (fun (r_2_0 : i32 (Z f)) => ?_)
  refine M_if_ne (pc := 5) C (tgt := 10) (Bi_i32 _) dX0_dropTail_5 (by decide) (fun h_5 => ?_) (fun h_5 => ?_)
  · have b_5 := Bid_ne0 h_5
    refine M_aload_n (pc := 10) C dX0_dropTail_10 rfl (by decide) ?_
    refine A_getR (pc := 11) C fl_X0_24 rfl (a := 1) (j := 6) rfl (tt_1 hT) (by decide) dX0_dropTail_11 ?_
    refine M_iload_n (pc := 14) C dX0_dropTail_14 rfl ?_
    refine A_iald (pc := 15) C (a := 6) (q := f) rfl (tt_6 hT) (by decide) rfl (by omega) dX0_dropTail_15 (fun (r_15 : i32 (B f)) => ?_)
    refine M.to (pc := 16) (st2 := [vI (B f)]) ?_ rfl rfl rfl
    refine M.to (st2 := [vI (-1)]) ?_ rfl (by rw [hB]) rfl
    refine M_istore_n (pc := 16) C dX0_dropTail_16 (by decide) ?_
    refine M_aload_n (pc := 17) C dX0_dropTail_17 rfl (by decide) ?_
    refine A_getR (pc := 18) C fl_X0_24 rfl (a := 1) (j := 6) rfl (tt_1 hT) (by decide) dX0_dropTail_18 ?_
    refine M_iload_n (pc := 21) C dX0_dropTail_21 rfl ?_
    refine M_iconst (pc := 22) C dX0_dropTail_22 ?_
    refine A_iast (pc := 23) C (a := 6) (q := f) rfl (tt_6 hT) (by decide) rfl (by omega) (by omega) dX0_dropTail_23 ?_
    refine M.to (pc := 24) (v2 := sa (sa (sa (sa (sa (sa (sa (sa (sa v 9 P) 8 W) 7 S) 6 (rs B f (-1))) 5 Z) 4 Rk) 3 O) 2 K) 1 G) ?_ rfl rfl (by rw [sa_up1 (by decide), sa_up1 (by decide), sa_up1 (by decide), sa_up1 (by decide), sa_up1 (by decide), sa_up0])
    refine M_aload_n (pc := 24) C dX0_dropTail_24 rfl (by decide) ?_
    refine A_getR (pc := 25) C fl_X0_27 rfl (a := 1) (j := 7) rfl (tt_1 hT) (by decide) dX0_dropTail_25 ?_
    refine M_iload_n (pc := 28) C dX0_dropTail_28 rfl ?_
    refine M_iconst (pc := 29) C dX0_dropTail_29 ?_
    refine A_iast (pc := 30) C (a := 7) (q := f) rfl (tt_7 hT) (by decide) rfl (by omega) (by omega) dX0_dropTail_30 ?_
    refine M.to (pc := 31) (v2 := sa (sa (sa (sa (sa (sa (sa (sa (sa v 9 P) 8 W) 7 (rs S f (-1))) 6 (rs B f (-1))) 5 Z) 4 Rk) 3 O) 2 K) 1 G) ?_ rfl rfl (by rw [sa_up1 (by decide), sa_up1 (by decide), sa_up1 (by decide), sa_up1 (by decide), sa_up1 (by decide), sa_up1 (by decide), sa_up0])
    refine M_aload_n (pc := 31) C dX0_dropTail_31 rfl (by decide) ?_
    refine M_iload_n (pc := 32) C dX0_dropTail_32 rfl ?_
    refine A_cV (pc := 33) C (x := vI 0) (a := 1) (c := 0) (c_X0_freeIfEmpty_o hT) yw_X0_freeIfEmpty lk_X0_134 rfl (congrArg Prod.fst (tt_1 hT)) hc_0 rfl dX0_dropTail_33 rfl (Nat.le_of_ble_eq_true rfl) (by decide) ⟨Nat.le_refl _, Nat.le_refl _⟩ ?_
    exact M_iret (pc := 36) C rfl dX0_dropTail_36 (by unfold dtV; rw [if_pos hB]) (by unfold dtK; rw [if_pos hB])
  · have b_5 := Bid_eq0 h_5
    exact absurd hz b_5
theorem c_X0_dropTail_n {N : Nat} {T : Ty} {P W S B Z Rk O K G : Nat → Int} {f b : Nat} {v : Ct} (hT : TT T) (hD : DI Z B S W) (hf : f < 10) (hz : Z f ≠ -1) (hB : B f = (b : Int)) (hb : b < 24) : Runs mX0_dropTail 2 0 0 [vR 1, vI ((f : Nat) : Int)] N T (sa (sa (sa (sa (sa (sa (sa (sa (sa v 9 P) 8 W) 7 S) 6 B) 5 Z) 4 Rk) 3 O) 2 K) 1 G) (some (vI (dtV K Z B S f))) N T (sa (sa (sa (sa (sa (sa (sa (sa (sa v 9 P) 8 W) 7 (rs S f (-1))) 6 (rs B f (-1))) 5 Z) 4 Rk) 3 O) 2 (dtK K Z B S f)) 1 G) := by
  refine Runs.of (by decide) (Nat.le_of_ble_eq_true rfl) fun κ C => ?_
  refine M_aload_n (pc := 0) C dX0_dropTail_0 rfl (by decide) ?_
  refine M_iload_n (pc := 1) C dX0_dropTail_1 rfl ?_
  refine A_cV (pc := 2) C (x := vI (Bi (decide (Z f ≠ -1)))) (a := 1) (c := 0) (c_X0_exists_n hT (f := f) (by omega)) yw_X0_exists lk_X0_46 rfl (congrArg Prod.fst (tt_1 hT)) hc_0 rfl dX0_dropTail_2 rfl (Nat.le_of_ble_eq_true rfl) (by decide) ⟨Nat.le_refl _, Nat.le_refl _⟩ ?_
  refine M_rd (pc := 5) C 5 f (fun (r_2_0 : i32 (Z f)) => ?_)
  refine M_if_ne (pc := 5) C (tgt := 10) (Bi_i32 _) dX0_dropTail_5 (by decide) (fun h_5 => ?_) (fun h_5 => ?_)
  · have b_5 := Bid_ne0 h_5
    refine M_aload_n (pc := 10) C dX0_dropTail_10 rfl (by decide) ?_
    refine A_getR (pc := 11) C fl_X0_24 rfl (a := 1) (j := 6) rfl (tt_1 hT) (by decide) dX0_dropTail_11 ?_
    refine M_iload_n (pc := 14) C dX0_dropTail_14 rfl ?_
    refine A_iald (pc := 15) C (a := 6) (q := f) rfl (tt_6 hT) (by decide) rfl (by omega) dX0_dropTail_15 (fun (r_15 : i32 (B f)) => ?_)
    refine M.to (pc := 16) (st2 := [vI (B f)]) ?_ rfl rfl rfl
    refine M.to (st2 := [vI ((b : Nat) : Int)]) ?_ rfl (by rw [hB]) rfl
    refine M_istore_n (pc := 16) C dX0_dropTail_16 (by decide) ?_
    refine M_aload_n (pc := 17) C dX0_dropTail_17 rfl (by decide) ?_
    refine A_getR (pc := 18) C fl_X0_24 rfl (a := 1) (j := 6) rfl (tt_1 hT) (by decide) dX0_dropTail_18 ?_
    refine M_iload_n (pc := 21) C dX0_dropTail_21 rfl ?_
    refine M_iconst (pc := 22) C dX0_dropTail_22 ?_
    refine A_iast (pc := 23) C (a := 6) (q := f) rfl (tt_6 hT) (by decide) rfl (by omega) (by omega) dX0_dropTail_23 ?_
    refine M.to (pc := 24) (v2 := sa (sa (sa (sa (sa (sa (sa (sa (sa v 9 P) 8 W) 7 S) 6 (rs B f (-1))) 5 Z) 4 Rk) 3 O) 2 K) 1 G) ?_ rfl rfl (by rw [sa_up1 (by decide), sa_up1 (by decide), sa_up1 (by decide), sa_up1 (by decide), sa_up1 (by decide), sa_up0])
    refine M_aload_n (pc := 24) C dX0_dropTail_24 rfl (by decide) ?_
    refine A_getR (pc := 25) C fl_X0_27 rfl (a := 1) (j := 7) rfl (tt_1 hT) (by decide) dX0_dropTail_25 ?_
    refine M_iload_n (pc := 28) C dX0_dropTail_28 rfl ?_
    refine M_iconst (pc := 29) C dX0_dropTail_29 ?_
    refine A_iast (pc := 30) C (a := 7) (q := f) rfl (tt_7 hT) (by decide) rfl (by omega) (by omega) dX0_dropTail_30 ?_
    refine M.to (pc := 31) (v2 := sa (sa (sa (sa (sa (sa (sa (sa (sa v 9 P) 8 W) 7 (rs S f (-1))) 6 (rs B f (-1))) 5 Z) 4 Rk) 3 O) 2 K) 1 G) ?_ rfl rfl (by rw [sa_up1 (by decide), sa_up1 (by decide), sa_up1 (by decide), sa_up1 (by decide), sa_up1 (by decide), sa_up1 (by decide), sa_up0])
    refine M_aload_n (pc := 31) C dX0_dropTail_31 rfl (by decide) ?_
    refine M_iload_n (pc := 32) C dX0_dropTail_32 rfl ?_
    refine A_cV (pc := 33) C (x := vI (feV K Z (rs B f (-1)) (rs S f (-1)) b)) (a := 1) (c := 0) (c_X0_freeIfEmpty hT (v := v) (P := P) (W := W) (S := rs S f (-1)) (B := rs B f (-1)) (Z := Z) (Rk := Rk) (O := O) (K := K) (G := G) (b := b) (DI_drop hD f) (by omega)) yw_X0_freeIfEmpty lk_X0_134 rfl (congrArg Prod.fst (tt_1 hT)) hc_0 rfl dX0_dropTail_33 rfl (Nat.le_of_ble_eq_true rfl) (by decide) ⟨Nat.le_refl _, Nat.le_refl _⟩ ?_
    exact M_iret (pc := 36) C rfl dX0_dropTail_36 (by unfold dtV; rw [if_neg (by omega), hB, Int.toNat_natCast]) (by unfold dtK; rw [if_neg (by omega), hB, Int.toNat_natCast])
  · have b_5 := Bid_eq0 h_5
    exact absurd hz b_5
theorem c_X0_dropTail {N : Nat} {T : Ty} {P W S B Z Rk O K G : Nat → Int} {f : Nat} {v : Ct} (hT : TT T) (hD : DI Z B S W) (hf : f < 10) (hz : Z f ≠ -1) : Runs mX0_dropTail 2 0 0 [vR 1, vI ((f : Nat) : Int)] N T (sa (sa (sa (sa (sa (sa (sa (sa (sa v 9 P) 8 W) 7 S) 6 B) 5 Z) 4 Rk) 3 O) 2 K) 1 G) (some (vI (dtV K Z B S f))) N T (sa (sa (sa (sa (sa (sa (sa (sa (sa v 9 P) 8 W) 7 (rs S f (-1))) 6 (rs B f (-1))) 5 Z) 4 Rk) 3 O) 2 (dtK K Z B S f)) 1 G) := by
  by_cases h : B f = -1
  · exact c_X0_dropTail_o hT hD hf hz h
  · have h2 := (hD f hf).2.1 h
    obtain ⟨b, hb⟩ : ∃ b : Nat, B f = (b : Int) := ⟨(B f).toNat, by omega⟩
    exact c_X0_dropTail_n hT hD hf hz hb (by omega)
theorem c_X0_takeWhole {N : Nat} {T : Ty} {P W S B Z Rk O K G : Nat → Int} {f k : Nat} {v : Ct} (hT : TT T) (hf : f < 10) (hk : k < 13) : Runs mX0_takeWhole 1 0 0 [vR 1, vI ((f : Nat) : Int), vI ((k : Nat) : Int)] N T (sa (sa (sa (sa (sa (sa (sa (sa (sa v 9 P) 8 W) 7 S) 6 B) 5 Z) 4 Rk) 3 O) 2 K) 1 G) none N T (sa (sa (sa (sa (sa (sa (sa (sa (sa v 9 P) 8 W) 7 S) 6 B) 5 Z) 4 (tawO K Rk ((k : Nat) : Int))) 3 (tawO K O ((f : Nat) : Int))) 2 (tawK K)) 1 G) := by
  refine Runs.of (by decide) (Nat.le_of_ble_eq_true rfl) fun κ C => ?_
  refine M_aload_n (pc := 0) C dX0_takeWhole_0 rfl (by decide) ?_
  refine A_cV (pc := 1) C (x := vI (lfN K)) (a := 1) (c := 0) (c_X0_lowestFree hT) yw_X0_lowestFree lk_X0_94 rfl (congrArg Prod.fst (tt_1 hT)) hc_0 rfl dX0_takeWhole_1 rfl (Nat.le_of_ble_eq_true rfl) (by decide) ⟨Nat.le_refl _, Nat.le_refl _⟩ ?_
  have hlf_1 := lfN_bd K
  refine M_istore_n (pc := 4) C dX0_takeWhole_4 (by decide) ?_
  refine M_iload_n (pc := 5) C dX0_takeWhole_5 rfl ?_
  refine A_cS (pc := 6) C (x := vI (Bi (decide (0 ≤ lfN K ∧ lfN K < 24)))) (c_X7_isBlock hT (b := lfN K) (by omega)) yw_X7_isBlock lk_X0_54 rfl dX0_takeWhole_6 rfl (Nat.le_of_ble_eq_true rfl) (by decide) ⟨Nat.le_refl _, Nat.le_refl _⟩ ?_
  refine M_if_eq (pc := 9) C (tgt := 33) (Bi_i32 _) dX0_takeWhole_9 (by decide) (fun h_9 => ?_) (fun h_9 => ?_)
  · have b_9 := Bid_eq0 h_9
    have h_7 : lfN K = -1 := by omega
    have e1 : tawK K = K := if_pos h_7
    have e2 : tawO K O ((f : Nat) : Int) = O := if_pos h_7
    have e3 : tawO K Rk ((k : Nat) : Int) = Rk := if_pos h_7
    exact M_vret (pc := 33) C rfl dX0_takeWhole_33 (by rw [e1, e2, e3]) rfl
  · have b_9 := Bid_ne0 h_9
    have h_7 : ¬ lfN K = -1 := by omega
    have e1 : tawK K = rs K (lfN K).toNat 1 := if_neg h_7
    have e2 : tawO K O ((f : Nat) : Int) = rs O (lfN K).toNat ((f : Nat) : Int) := if_neg h_7
    have e3 : tawO K Rk ((k : Nat) : Int) = rs Rk (lfN K).toNat ((k : Nat) : Int) := if_neg h_7
    refine M_aload_n (pc := 12) C dX0_takeWhole_12 rfl (by decide) ?_
    refine A_getR (pc := 13) C fl_X0_9 rfl (a := 1) (j := 2) rfl (tt_1 hT) (by decide) dX0_takeWhole_13 ?_
    refine M_iload_n (pc := 16) C dX0_takeWhole_16 rfl ?_
    refine M_iconst (pc := 17) C dX0_takeWhole_17 ?_
    refine A_iast (pc := 18) C (a := 2) (q := ((lfN K).toNat)) rfl (tt_2 hT) (by decide) (by omega) (by omega) (by omega) dX0_takeWhole_18 ?_
    refine M.to (pc := 19) (v2 := sa (sa (sa (sa (sa (sa (sa (sa (sa v 9 P) 8 W) 7 S) 6 B) 5 Z) 4 Rk) 3 O) 2 (rs K ((lfN K).toNat) 1)) 1 G) ?_ rfl rfl (by rw [sa_up1 (by decide), sa_up0])
    refine M_aload_n (pc := 19) C dX0_takeWhole_19 rfl (by decide) ?_
    refine A_getR (pc := 20) C fl_X0_15 rfl (a := 1) (j := 3) rfl (tt_1 hT) (by decide) dX0_takeWhole_20 ?_
    refine M_iload_n (pc := 23) C dX0_takeWhole_23 rfl ?_
    refine M_iload_n (pc := 24) C dX0_takeWhole_24 rfl ?_
    refine A_iast (pc := 25) C (a := 3) (q := ((lfN K).toNat)) rfl (tt_3 hT) (by decide) (by omega) (by omega) (by omega) dX0_takeWhole_25 ?_
    refine M.to (pc := 26) (v2 := sa (sa (sa (sa (sa (sa (sa (sa (sa v 9 P) 8 W) 7 S) 6 B) 5 Z) 4 Rk) 3 (rs O ((lfN K).toNat) ((f : Nat) : Int))) 2 (rs K ((lfN K).toNat) 1)) 1 G) ?_ rfl rfl (by rw [sa_up1 (by decide), sa_up1 (by decide), sa_up0])
    refine M_aload_n (pc := 26) C dX0_takeWhole_26 rfl (by decide) ?_
    refine A_getR (pc := 27) C fl_X0_18 rfl (a := 1) (j := 4) rfl (tt_1 hT) (by decide) dX0_takeWhole_27 ?_
    refine M_iload_n (pc := 30) C dX0_takeWhole_30 rfl ?_
    refine M_iload_n (pc := 31) C dX0_takeWhole_31 rfl ?_
    refine A_iast (pc := 32) C (a := 4) (q := ((lfN K).toNat)) rfl (tt_4 hT) (by decide) (by omega) (by omega) (by omega) dX0_takeWhole_32 ?_
    refine M.to (pc := 33) (v2 := sa (sa (sa (sa (sa (sa (sa (sa (sa v 9 P) 8 W) 7 S) 6 B) 5 Z) 4 (rs Rk ((lfN K).toNat) ((k : Nat) : Int))) 3 (rs O ((lfN K).toNat) ((f : Nat) : Int))) 2 (rs K ((lfN K).toNat) 1)) 1 G) ?_ rfl rfl (by rw [sa_up1 (by decide), sa_up1 (by decide), sa_up1 (by decide), sa_up0])
    exact M_vret (pc := 33) C rfl dX0_takeWhole_33 (by rw [e1, e2, e3]) rfl
theorem c_X0_putTail {N : Nat} {T : Ty} {P W S B Z Rk O K G : Nat → Int} {f b s : Nat} {v : Ct} (hT : TT T) (hf : f < 10) (hz : Z f ≠ -1) (hb : b < 24) (hs : s < 17) : Runs mX0_putTail 1 0 0 [vR 1, vI ((f : Nat) : Int), vI ((b : Nat) : Int), vI ((s : Nat) : Int)] N T (sa (sa (sa (sa (sa (sa (sa (sa (sa v 9 P) 8 W) 7 S) 6 B) 5 Z) 4 Rk) 3 O) 2 K) 1 G) none N T (sa (sa (sa (sa (sa (sa (sa (sa (sa v 9 (rs P f (wr (P f + 1)))) 8 W) 7 (rs S f ((s : Nat) : Int))) 6 (rs B f ((b : Nat) : Int))) 5 Z) 4 Rk) 3 O) 2 (rs K b 2)) 1 G) := by
  refine Runs.of (by decide) (Nat.le_of_ble_eq_true rfl) fun κ C => ?_
  refine M_aload_n (pc := 0) C dX0_putTail_0 rfl (by decide) ?_
  refine M_iload_n (pc := 1) C dX0_putTail_1 rfl ?_
  refine A_cV (pc := 2) C (x := vI (Bi (decide (Z f ≠ -1)))) (a := 1) (c := 0) (c_X0_exists_n hT (f := f) (by omega)) yw_X0_exists lk_X0_46 rfl (congrArg Prod.fst (tt_1 hT)) hc_0 rfl dX0_putTail_2 rfl (Nat.le_of_ble_eq_true rfl) (by decide) ⟨Nat.le_refl _, Nat.le_refl _⟩ ?_
  refine M_rd (pc := 5) C 5 f (fun (r_2_0 : i32 (Z f)) => ?_)
  refine M_if_eq (pc := 5) C (tgt := 46) (Bi_i32 _) dX0_putTail_5 (by decide) (fun h_5 => ?_) (fun h_5 => ?_)
  · have b_5 := Bid_eq0 h_5
    exact absurd hz b_5
  · have b_5 := Bid_ne0 h_5
    refine M_iload_n (pc := 8) C dX0_putTail_8 rfl ?_
    refine A_cS (pc := 9) C (x := vI (Bi (decide (0 ≤ ((b : Nat) : Int) ∧ ((b : Nat) : Int) < 24)))) (c_X7_isBlock hT (b := ((b : Nat) : Int)) (by omega)) yw_X7_isBlock lk_X0_54 rfl dX0_putTail_9 rfl (Nat.le_of_ble_eq_true rfl) (by decide) ⟨Nat.le_refl _, Nat.le_refl _⟩ ?_
    refine M_if_eq (pc := 12) C (tgt := 46) (Bi_i32 _) dX0_putTail_12 (by decide) (fun h_12 => ?_) (fun h_12 => ?_)
    · have b_12 := Bid_eq0 h_12
      exfalso
      omega
    · have b_12 := Bid_ne0 h_12
      refine M_aload_n (pc := 15) C dX0_putTail_15 rfl (by decide) ?_
      refine A_getR (pc := 16) C fl_X0_24 rfl (a := 1) (j := 6) rfl (tt_1 hT) (by decide) dX0_putTail_16 ?_
      refine M_iload_n (pc := 19) C dX0_putTail_19 rfl ?_
      refine M_iload_n (pc := 20) C dX0_putTail_20 rfl ?_
      refine A_iast (pc := 21) C (a := 6) (q := f) rfl (tt_6 hT) (by decide) rfl (by omega) (by omega) dX0_putTail_21 ?_
      refine M.to (pc := 22) (v2 := sa (sa (sa (sa (sa (sa (sa (sa (sa v 9 P) 8 W) 7 S) 6 (rs B f ((b : Nat) : Int))) 5 Z) 4 Rk) 3 O) 2 K) 1 G) ?_ rfl rfl (by rw [sa_up1 (by decide), sa_up1 (by decide), sa_up1 (by decide), sa_up1 (by decide), sa_up1 (by decide), sa_up0])
      refine M_aload_n (pc := 22) C dX0_putTail_22 rfl (by decide) ?_
      refine A_getR (pc := 23) C fl_X0_27 rfl (a := 1) (j := 7) rfl (tt_1 hT) (by decide) dX0_putTail_23 ?_
      refine M_iload_n (pc := 26) C dX0_putTail_26 rfl ?_
      refine M_iload_n (pc := 27) C dX0_putTail_27 rfl ?_
      refine A_iast (pc := 28) C (a := 7) (q := f) rfl (tt_7 hT) (by decide) rfl (by omega) (by omega) dX0_putTail_28 ?_
      refine M.to (pc := 29) (v2 := sa (sa (sa (sa (sa (sa (sa (sa (sa v 9 P) 8 W) 7 (rs S f ((s : Nat) : Int))) 6 (rs B f ((b : Nat) : Int))) 5 Z) 4 Rk) 3 O) 2 K) 1 G) ?_ rfl rfl (by rw [sa_up1 (by decide), sa_up1 (by decide), sa_up1 (by decide), sa_up1 (by decide), sa_up1 (by decide), sa_up1 (by decide), sa_up0])
      refine M_aload_n (pc := 29) C dX0_putTail_29 rfl (by decide) ?_
      refine A_getR (pc := 30) C fl_X0_9 rfl (a := 1) (j := 2) rfl (tt_1 hT) (by decide) dX0_putTail_30 ?_
      refine M_iload_n (pc := 33) C dX0_putTail_33 rfl ?_
      refine M_iconst (pc := 34) C dX0_putTail_34 ?_
      refine A_iast (pc := 35) C (a := 2) (q := b) rfl (tt_2 hT) (by decide) rfl (by omega) (by omega) dX0_putTail_35 ?_
      refine M.to (pc := 36) (v2 := sa (sa (sa (sa (sa (sa (sa (sa (sa v 9 P) 8 W) 7 (rs S f ((s : Nat) : Int))) 6 (rs B f ((b : Nat) : Int))) 5 Z) 4 Rk) 3 O) 2 (rs K b 2)) 1 G) ?_ rfl rfl (by rw [sa_up1 (by decide), sa_up0])
      refine M_aload_n (pc := 36) C dX0_putTail_36 rfl (by decide) ?_
      refine A_getR (pc := 37) C fl_X0_33 rfl (a := 1) (j := 9) rfl (tt_1 hT) (by decide) dX0_putTail_37 ?_
      refine M_iload_n (pc := 40) C dX0_putTail_40 rfl ?_
      refine M_dup2 (pc := 41) C rfl rfl dX0_putTail_41 ?_
      refine A_iald (pc := 42) C (a := 9) (q := f) rfl (tt_9 hT) (by decide) rfl (by omega) dX0_putTail_42 (fun (r_42 : i32 (P f)) => ?_)
      refine M.to (pc := 43) (st2 := [vI (P f), vI ((f : Nat) : Int), vR 9]) ?_ rfl rfl rfl
      refine M_iconst (pc := 43) C dX0_putTail_43 ?_
      refine M_iadd (pc := 44) C dX0_putTail_44 ?_
      refine M_wr (pc := 45) ?_
      refine A_iast (pc := 45) C (a := 9) (q := f) rfl (tt_9 hT) (by decide) rfl (by omega) (wr_i32 _) dX0_putTail_45 ?_
      refine M.to (pc := 46) (v2 := sa (sa (sa (sa (sa (sa (sa (sa (sa v 9 (rs P f (wr ((P f) + 1)))) 8 W) 7 (rs S f ((s : Nat) : Int))) 6 (rs B f ((b : Nat) : Int))) 5 Z) 4 Rk) 3 O) 2 (rs K b 2)) 1 G) ?_ rfl rfl (by rw [sa_up1 (by decide), sa_up1 (by decide), sa_up1 (by decide), sa_up1 (by decide), sa_up1 (by decide), sa_up1 (by decide), sa_up1 (by decide), sa_up1 (by decide), sa_up0])
      exact M_vret (pc := 46) C rfl dX0_putTail_46 rfl rfl
theorem c_X0_turnFree {N : Nat} {T : Ty} {K G : Nat → Int} {b : Nat} {v : Ct} (hT : TT T) (hb : b < 24) : Runs mX0_turnFree 1 0 0 [vR 1, vI ((b : Nat) : Int)] N T (sa (sa v 2 K) 1 G) none N T (sa (sa v 2 (rs K b 0)) 1 G) := by
  refine Runs.of (by decide) (Nat.le_of_ble_eq_true rfl) fun κ C => ?_
  refine M_iload_n (pc := 0) C dX0_turnFree_0 rfl ?_
  refine A_cS (pc := 1) C (x := vI (Bi (decide (0 ≤ ((b : Nat) : Int) ∧ ((b : Nat) : Int) < 24)))) (c_X7_isBlock hT (b := ((b : Nat) : Int)) (by omega)) yw_X7_isBlock lk_X0_54 rfl dX0_turnFree_1 rfl (Nat.le_of_ble_eq_true rfl) (by decide) ⟨Nat.le_refl _, Nat.le_refl _⟩ ?_
  refine M_if_eq (pc := 4) C (tgt := 14) (Bi_i32 _) dX0_turnFree_4 (by decide) (fun h_4 => ?_) (fun h_4 => ?_)
  · have b_4 := Bid_eq0 h_4
    exfalso
    omega
  · have b_4 := Bid_ne0 h_4
    refine M_aload_n (pc := 7) C dX0_turnFree_7 rfl (by decide) ?_
    refine A_getR (pc := 8) C fl_X0_9 rfl (a := 1) (j := 2) rfl (tt_1 hT) (by decide) dX0_turnFree_8 ?_
    refine M_iload_n (pc := 11) C dX0_turnFree_11 rfl ?_
    refine M_iconst (pc := 12) C dX0_turnFree_12 ?_
    refine A_iast (pc := 13) C (a := 2) (q := b) rfl (tt_2 hT) (by decide) rfl (by omega) (by omega) dX0_turnFree_13 ?_
    refine M.to (pc := 14) (v2 := sa (sa v 2 (rs K b 0)) 1 G) ?_ rfl rfl (by rw [sa_up1 (by decide), sa_up0])
    exact M_vret (pc := 14) C rfl dX0_turnFree_14 rfl rfl
theorem c_X0_turnBad {N : Nat} {T : Ty} {P W S B Z Rk O K G : Nat → Int} {b : Nat} {v : Ct} (hT : TT T) (hb : b < 24) : Runs mX0_turnBad 2 0 0 [vR 1, vI ((b : Nat) : Int)] N T (sa (sa (sa (sa (sa (sa (sa (sa (sa v 9 P) 8 W) 7 S) 6 B) 5 Z) 4 Rk) 3 O) 2 K) 1 G) (some (vI (((tbS O Z B W b 10).2 : Nat) : Int))) N T (sa (sa (sa (sa (sa (sa (sa (sa (sa v 9 P) 8 ((tbS O Z B W b 10).1)) 7 S) 6 B) 5 Z) 4 Rk) 3 O) 2 (rs K b 3)) 1 G) := by
  refine Runs.of (by decide) (Nat.le_of_ble_eq_true rfl) fun κ C => ?_
  refine M_iload_n (pc := 0) C dX0_turnBad_0 rfl ?_
  refine A_cS (pc := 1) C (x := vI (Bi (decide (0 ≤ ((b : Nat) : Int) ∧ ((b : Nat) : Int) < 24)))) (c_X7_isBlock hT (b := ((b : Nat) : Int)) (by omega)) yw_X7_isBlock lk_X0_54 rfl dX0_turnBad_1 rfl (Nat.le_of_ble_eq_true rfl) (by decide) ⟨Nat.le_refl _, Nat.le_refl _⟩ ?_
  refine M_if_ne (pc := 4) C (tgt := 9) (Bi_i32 _) dX0_turnBad_4 (by decide) (fun h_4 => ?_) (fun h_4 => ?_)
  · have b_4 := Bid_ne0 h_4
    refine M_iconst (pc := 9) C dX0_turnBad_9 ?_
    refine M_istore_n (pc := 10) C dX0_turnBad_10 (by decide) ?_
    refine M_iconst (pc := 11) C dX0_turnBad_11 ?_
    refine M_istore_n (pc := 12) C dX0_turnBad_12 (by decide) ?_
    refine loop_le (P := fun i => M κ N T 13 [some (vR 1), some (vI ((b : Nat) : Int)), some (vI (((tbS O Z B W b i).2 : Nat) : Int)), some (vI ((i : Nat) : Int))] [] (sa (sa (sa (sa (sa (sa (sa (sa (sa v 9 P) 8 ((tbS O Z B W b i).1)) 7 S) 6 B) 5 Z) 4 Rk) 3 O) 2 K) 1 G) 0 0 (QR κ (some (vI (((tbS O Z B W b 10).2 : Nat) : Int))) N T (sa (sa (sa (sa (sa (sa (sa (sa (sa v 9 P) 8 ((tbS O Z B W b 10).1)) 7 S) 6 B) 5 Z) 4 Rk) 3 O) 2 (rs K b 3)) 1 G) 0 0)) 10 (fun i hi ih => ?_)
    have htb := tbS_bd O Z B W b i
    refine M_iload_n (pc := 13) C dX0_turnBad_13 rfl ?_
    refine M_bipush (pc := 14) C (by decide) dX0_turnBad_14 ?_
    refine M_icmp_ge (pc := 16) C (tgt := 53) (by omega) (by omega) dX0_turnBad_16 (by decide) (fun h_16 => ?_) (fun h_16 => ?_)
    · have hi10 : i = 10 := by omega
      subst hi10
      refine M_aload_n (pc := 53) C dX0_turnBad_53 rfl (by decide) ?_
      refine A_getR (pc := 54) C fl_X0_9 rfl (a := 1) (j := 2) rfl (tt_1 hT) (by decide) dX0_turnBad_54 ?_
      refine M_iload_n (pc := 57) C dX0_turnBad_57 rfl ?_
      refine M_iconst (pc := 58) C dX0_turnBad_58 ?_
      refine A_iast (pc := 59) C (a := 2) (q := b) rfl (tt_2 hT) (by decide) rfl (by omega) (by omega) dX0_turnBad_59 ?_
      refine M.to (pc := 60) (v2 := sa (sa (sa (sa (sa (sa (sa (sa (sa v 9 P) 8 ((tbS O Z B W b 10).1)) 7 S) 6 B) 5 Z) 4 Rk) 3 O) 2 (rs K b 3)) 1 G) ?_ rfl rfl (by rw [sa_up1 (by decide), sa_up0])
      refine M_iload_n (pc := 60) C dX0_turnBad_60 rfl ?_
      exact M_iret (pc := 61) C rfl dX0_turnBad_61 rfl rfl
    · refine M_aload_n (pc := 19) C dX0_turnBad_19 rfl (by decide) ?_
      refine M_iload_n (pc := 20) C dX0_turnBad_20 rfl ?_
      refine M_iload_n (pc := 21) C dX0_turnBad_21 rfl ?_
      refine A_cV (pc := 22) C (x := vI (Bi (hsB O Z B i b))) (a := 1) (c := 0) (c_X0_hasSomething hT (f := i) (b := b) (by omega) (by omega)) yw_X0_hasSomething lk_X0_78 rfl (congrArg Prod.fst (tt_1 hT)) hc_0 rfl dX0_turnBad_22 rfl (Nat.le_of_ble_eq_true rfl) (by decide) ⟨Nat.le_refl _, Nat.le_refl _⟩ ?_
      refine M_if_eq (pc := 25) C (tgt := 47) (Bi_i32 _) dX0_turnBad_25 (by decide) (fun h_25 => ?_) (fun h_25 => ?_)
      · have b_25 := Bi_eq0 h_25
        have hE : tbS O Z B W b (i + 1) = tbS O Z B W b i := if_neg (fun q => by rw [b_25] at q; exact absurd q.1 (by decide))
        refine M_iinc (pc := 47) C dX0_turnBad_47 rfl (by decide) ?_
        refine M_goto (pc := 50) C (tgt := 13) dX0_turnBad_50 (by decide) ?_
        exact M.to (ih (by omega)) (by rw [hE]; rfl) rfl (by rw [hE])
      · have b_25 := Bi_ne0 h_25
        refine M_aload_n (pc := 28) C dX0_turnBad_28 rfl (by decide) ?_
        refine A_getR (pc := 29) C fl_X0_30 rfl (a := 1) (j := 8) rfl (tt_1 hT) (by decide) dX0_turnBad_29 ?_
        refine M_iload_n (pc := 32) C dX0_turnBad_32 rfl ?_
        refine A_iald (pc := 33) C (a := 8) (q := i) rfl (tt_8 hT) (by decide) rfl (by omega) dX0_turnBad_33 (fun (r_33 : i32 (((tbS O Z B W b i).1) i)) => ?_)
        refine M.to (pc := 34) (st2 := [vI (((tbS O Z B W b i).1) i)]) ?_ rfl rfl rfl
        refine M_if_ne (pc := 34) C (tgt := 47) (by omega) dX0_turnBad_34 (by decide) (fun h_34 => ?_) (fun h_34 => ?_)
        · have hE : tbS O Z B W b (i + 1) = tbS O Z B W b i := if_neg (fun q => absurd q.2 h_34)
          refine M_iinc (pc := 47) C dX0_turnBad_47 rfl (by decide) ?_
          refine M_goto (pc := 50) C (tgt := 13) dX0_turnBad_50 (by decide) ?_
          exact M.to (ih (by omega)) (by rw [hE]; rfl) rfl (by rw [hE])
        · have hE : tbS O Z B W b (i + 1) = (rs (tbS O Z B W b i).1 i 1, (tbS O Z B W b i).2 + 1) := if_pos ⟨b_25, h_34⟩
          refine M_aload_n (pc := 37) C dX0_turnBad_37 rfl (by decide) ?_
          refine A_getR (pc := 38) C fl_X0_30 rfl (a := 1) (j := 8) rfl (tt_1 hT) (by decide) dX0_turnBad_38 ?_
          refine M_iload_n (pc := 41) C dX0_turnBad_41 rfl ?_
          refine M_iconst (pc := 42) C dX0_turnBad_42 ?_
          refine A_iast (pc := 43) C (a := 8) (q := i) rfl (tt_8 hT) (by decide) rfl (by omega) (by omega) dX0_turnBad_43 ?_
          refine M.to (pc := 44) (v2 := sa (sa (sa (sa (sa (sa (sa (sa (sa v 9 P) 8 (rs ((tbS O Z B W b i).1) i 1)) 7 S) 6 B) 5 Z) 4 Rk) 3 O) 2 K) 1 G) ?_ rfl rfl (by rw [sa_up1 (by decide), sa_up1 (by decide), sa_up1 (by decide), sa_up1 (by decide), sa_up1 (by decide), sa_up1 (by decide), sa_up1 (by decide), sa_up0])
          refine M_iinc (pc := 44) C dX0_turnBad_44 rfl (by decide) ?_
          refine M_iinc (pc := 47) C dX0_turnBad_47 rfl (by decide) ?_
          refine M_goto (pc := 50) C (tgt := 13) dX0_turnBad_50 (by decide) ?_
          exact M.to (ih (by omega)) (by rw [hE]; rfl) rfl (by rw [hE])
  · have b_4 := Bid_eq0 h_4
    exfalso
    omega
theorem c_X0_dropWholes {N : Nat} {T : Ty} {P W S B Z Rk O K G : Nat → Int} {f : Nat} {lf : Int} {v : Ct} (hT : TT T) (hf : f < 10) (hl : i32 lf) : Runs mX0_dropWholes 0 0 0 [vR 1, vI ((f : Nat) : Int), vI lf] N T (sa (sa (sa (sa (sa (sa (sa (sa (sa v 9 P) 8 W) 7 S) 6 B) 5 Z) 4 Rk) 3 O) 2 K) 1 G) (some (vI (((dwS2 ((f : Nat) : Int) lf K O Rk 24).2.2.2 : Nat) : Int))) N T (sa (sa (sa (sa (sa (sa (sa (sa (sa v 9 P) 8 W) 7 S) 6 B) 5 Z) 4 ((dwS2 ((f : Nat) : Int) lf K O Rk 24).2.2.1)) 3 ((dwS2 ((f : Nat) : Int) lf K O Rk 24).2.1)) 2 ((dwS2 ((f : Nat) : Int) lf K O Rk 24).1)) 1 G) := by
  refine Runs.of (by decide) (Nat.le_of_ble_eq_true rfl) fun κ C => ?_
  refine M_iconst (pc := 0) C dX0_dropWholes_0 ?_
  refine M_istore_n (pc := 1) C dX0_dropWholes_1 (by decide) ?_
  refine M_iconst (pc := 2) C dX0_dropWholes_2 ?_
  refine M_istore (pc := 3) C dX0_dropWholes_3 (by decide) ?_
  refine loop_le (P := fun i => M κ N T 5 [some (vR 1), some (vI ((f : Nat) : Int)), some (vI lf), some (vI (((dwS2 ((f : Nat) : Int) lf K O Rk i).2.2.2 : Nat) : Int)), some (vI ((i : Nat) : Int))] [] (sa (sa (sa (sa (sa (sa (sa (sa (sa v 9 P) 8 W) 7 S) 6 B) 5 Z) 4 ((dwS2 ((f : Nat) : Int) lf K O Rk i).2.2.1)) 3 ((dwS2 ((f : Nat) : Int) lf K O Rk i).2.1)) 2 ((dwS2 ((f : Nat) : Int) lf K O Rk i).1)) 1 G) 0 0 (QR κ (some (vI (((dwS2 ((f : Nat) : Int) lf K O Rk 24).2.2.2 : Nat) : Int))) N T (sa (sa (sa (sa (sa (sa (sa (sa (sa v 9 P) 8 W) 7 S) 6 B) 5 Z) 4 ((dwS2 ((f : Nat) : Int) lf K O Rk 24).2.2.1)) 3 ((dwS2 ((f : Nat) : Int) lf K O Rk 24).2.1)) 2 ((dwS2 ((f : Nat) : Int) lf K O Rk 24).1)) 1 G) 0 0)) 24 (fun i hi ih => ?_)
  have hdw := dwS2_bd ((f : Nat) : Int) lf K O Rk i
  refine M_iload (pc := 5) C dX0_dropWholes_5 rfl ?_
  refine M_bipush (pc := 7) C (by decide) dX0_dropWholes_7 ?_
  refine M_icmp_ge (pc := 9) C (tgt := 78) (by omega) (by omega) dX0_dropWholes_9 (by decide) (fun h_9 => ?_) (fun h_9 => ?_)
  · have hi24 : i = 24 := by omega
    subst hi24
    refine M_iload_n (pc := 78) C dX0_dropWholes_78 rfl ?_
    exact M_iret (pc := 79) C rfl dX0_dropWholes_79 rfl rfl
  · refine M_aload_n (pc := 12) C dX0_dropWholes_12 rfl (by decide) ?_
    refine A_getR (pc := 13) C fl_X0_15 rfl (a := 1) (j := 3) rfl (tt_1 hT) (by decide) dX0_dropWholes_13 ?_
    refine M_iload (pc := 16) C dX0_dropWholes_16 rfl ?_
    refine A_iald (pc := 18) C (a := 3) (q := i) rfl (tt_3 hT) (by decide) rfl (by omega) dX0_dropWholes_18 (fun (r_18 : i32 (((dwS2 ((f : Nat) : Int) lf K O Rk i).2.1) i)) => ?_)
    refine M.to (pc := 19) (st2 := [vI (((dwS2 ((f : Nat) : Int) lf K O Rk i).2.1) i)]) ?_ rfl rfl rfl
    refine M_iload_n (pc := 19) C dX0_dropWholes_19 rfl ?_
    refine M_icmp_ne (pc := 20) C (tgt := 72) (by omega) (by omega) dX0_dropWholes_20 (by decide) (fun h_20 => ?_) (fun h_20 => ?_)
    · have hE : dwS2 ((f : Nat) : Int) lf K O Rk (i + 1) = dwS2 ((f : Nat) : Int) lf K O Rk i := if_neg (fun q => absurd q.1 h_20)
      refine M_iinc (pc := 72) C dX0_dropWholes_72 rfl (by decide) ?_
      refine M_goto (pc := 75) C (tgt := 5) dX0_dropWholes_75 (by decide) ?_
      exact M.to (ih (by omega)) (by rw [hE]; rfl) rfl (by rw [hE])
    · refine M_aload_n (pc := 23) C dX0_dropWholes_23 rfl (by decide) ?_
      refine A_getR (pc := 24) C fl_X0_18 rfl (a := 1) (j := 4) rfl (tt_1 hT) (by decide) dX0_dropWholes_24 ?_
      refine M_iload (pc := 27) C dX0_dropWholes_27 rfl ?_
      refine A_iald (pc := 29) C (a := 4) (q := i) rfl (tt_4 hT) (by decide) rfl (by omega) dX0_dropWholes_29 (fun (r_29 : i32 (((dwS2 ((f : Nat) : Int) lf K O Rk i).2.2.1) i)) => ?_)
      refine M.to (pc := 30) (st2 := [vI (((dwS2 ((f : Nat) : Int) lf K O Rk i).2.2.1) i)]) ?_ rfl rfl rfl
      refine M_iload_n (pc := 30) C dX0_dropWholes_30 rfl ?_
      refine M_icmp_lt (pc := 31) C (tgt := 72) (by omega) (by omega) dX0_dropWholes_31 (by decide) (fun h_31 => ?_) (fun h_31 => ?_)
      · have hE : dwS2 ((f : Nat) : Int) lf K O Rk (i + 1) = dwS2 ((f : Nat) : Int) lf K O Rk i := if_neg (fun q => by have := q.2; omega)
        refine M_iinc (pc := 72) C dX0_dropWholes_72 rfl (by decide) ?_
        refine M_goto (pc := 75) C (tgt := 5) dX0_dropWholes_75 (by decide) ?_
        exact M.to (ih (by omega)) (by rw [hE]; rfl) rfl (by rw [hE])
      · refine M_aload_n (pc := 34) C dX0_dropWholes_34 rfl (by decide) ?_
        refine A_getR (pc := 35) C fl_X0_15 rfl (a := 1) (j := 3) rfl (tt_1 hT) (by decide) dX0_dropWholes_35 ?_
        refine M_iload (pc := 38) C dX0_dropWholes_38 rfl ?_
        refine M_iconst (pc := 40) C dX0_dropWholes_40 ?_
        refine A_iast (pc := 41) C (a := 3) (q := i) rfl (tt_3 hT) (by decide) rfl (by omega) (by omega) dX0_dropWholes_41 ?_
        refine M.to (pc := 42) (v2 := sa (sa (sa (sa (sa (sa (sa (sa (sa v 9 P) 8 W) 7 S) 6 B) 5 Z) 4 ((dwS2 ((f : Nat) : Int) lf K O Rk i).2.2.1)) 3 (rs ((dwS2 ((f : Nat) : Int) lf K O Rk i).2.1) i (-1))) 2 ((dwS2 ((f : Nat) : Int) lf K O Rk i).1)) 1 G) ?_ rfl rfl (by rw [sa_up1 (by decide), sa_up1 (by decide), sa_up0])
        refine M_aload_n (pc := 42) C dX0_dropWholes_42 rfl (by decide) ?_
        refine A_getR (pc := 43) C fl_X0_18 rfl (a := 1) (j := 4) rfl (tt_1 hT) (by decide) dX0_dropWholes_43 ?_
        refine M_iload (pc := 46) C dX0_dropWholes_46 rfl ?_
        refine M_iconst (pc := 48) C dX0_dropWholes_48 ?_
        refine A_iast (pc := 49) C (a := 4) (q := i) rfl (tt_4 hT) (by decide) rfl (by omega) (by omega) dX0_dropWholes_49 ?_
        refine M.to (pc := 50) (v2 := sa (sa (sa (sa (sa (sa (sa (sa (sa v 9 P) 8 W) 7 S) 6 B) 5 Z) 4 (rs ((dwS2 ((f : Nat) : Int) lf K O Rk i).2.2.1) i 0)) 3 (rs ((dwS2 ((f : Nat) : Int) lf K O Rk i).2.1) i (-1))) 2 ((dwS2 ((f : Nat) : Int) lf K O Rk i).1)) 1 G) ?_ rfl rfl (by rw [sa_up1 (by decide), sa_up1 (by decide), sa_up1 (by decide), sa_up0])
        refine M_aload_n (pc := 50) C dX0_dropWholes_50 rfl (by decide) ?_
        refine A_getR (pc := 51) C fl_X0_9 rfl (a := 1) (j := 2) rfl (tt_1 hT) (by decide) dX0_dropWholes_51 ?_
        refine M_iload (pc := 54) C dX0_dropWholes_54 rfl ?_
        refine A_iald (pc := 56) C (a := 2) (q := i) rfl (tt_2 hT) (by decide) rfl (by omega) dX0_dropWholes_56 (fun (r_56 : i32 (((dwS2 ((f : Nat) : Int) lf K O Rk i).1) i)) => ?_)
        refine M.to (pc := 57) (st2 := [vI (((dwS2 ((f : Nat) : Int) lf K O Rk i).1) i)]) ?_ rfl rfl rfl
        refine M_iconst (pc := 57) C dX0_dropWholes_57 ?_
        refine M_icmp_ne (pc := 58) C (tgt := 72) (by omega) (by omega) dX0_dropWholes_58 (by decide) (fun h_58 => ?_) (fun h_58 => ?_)
        · have hE : dwS2 ((f : Nat) : Int) lf K O Rk (i + 1) = ((dwS2 ((f : Nat) : Int) lf K O Rk i).1, rs (dwS2 ((f : Nat) : Int) lf K O Rk i).2.1 i (-1), rs (dwS2 ((f : Nat) : Int) lf K O Rk i).2.2.1 i 0, (dwS2 ((f : Nat) : Int) lf K O Rk i).2.2.2) := (if_pos ⟨h_20, h_31⟩).trans (if_neg h_58)
          refine M_iinc (pc := 72) C dX0_dropWholes_72 rfl (by decide) ?_
          refine M_goto (pc := 75) C (tgt := 5) dX0_dropWholes_75 (by decide) ?_
          exact M.to (ih (by omega)) (by rw [hE]; rfl) rfl (by rw [hE])
        · have hE : dwS2 ((f : Nat) : Int) lf K O Rk (i + 1) = (rs (dwS2 ((f : Nat) : Int) lf K O Rk i).1 i 0, rs (dwS2 ((f : Nat) : Int) lf K O Rk i).2.1 i (-1), rs (dwS2 ((f : Nat) : Int) lf K O Rk i).2.2.1 i 0, (dwS2 ((f : Nat) : Int) lf K O Rk i).2.2.2 + 1) := (if_pos ⟨h_20, h_31⟩).trans (if_pos h_58)
          refine M_aload_n (pc := 61) C dX0_dropWholes_61 rfl (by decide) ?_
          refine A_getR (pc := 62) C fl_X0_9 rfl (a := 1) (j := 2) rfl (tt_1 hT) (by decide) dX0_dropWholes_62 ?_
          refine M_iload (pc := 65) C dX0_dropWholes_65 rfl ?_
          refine M_iconst (pc := 67) C dX0_dropWholes_67 ?_
          refine A_iast (pc := 68) C (a := 2) (q := i) rfl (tt_2 hT) (by decide) rfl (by omega) (by omega) dX0_dropWholes_68 ?_
          refine M.to (pc := 69) (v2 := sa (sa (sa (sa (sa (sa (sa (sa (sa v 9 P) 8 W) 7 S) 6 B) 5 Z) 4 (rs ((dwS2 ((f : Nat) : Int) lf K O Rk i).2.2.1) i 0)) 3 (rs ((dwS2 ((f : Nat) : Int) lf K O Rk i).2.1) i (-1))) 2 (rs ((dwS2 ((f : Nat) : Int) lf K O Rk i).1) i 0)) 1 G) ?_ rfl rfl (by rw [sa_up1 (by decide), sa_up0])
          refine M_iinc (pc := 69) C dX0_dropWholes_69 rfl (by decide) ?_
          refine M_iinc (pc := 72) C dX0_dropWholes_72 rfl (by decide) ?_
          refine M_goto (pc := 75) C (tgt := 5) dX0_dropWholes_75 (by decide) ?_
          exact M.to (ih (by omega)) (by rw [hE]; rfl) rfl (by rw [hE])
