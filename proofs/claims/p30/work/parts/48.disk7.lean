theorem c_X0_addFile_n {N : Nat} {T : Ty} {P W S B Z Rk O K G : Nat → Int} {s : Nat} {v : Ct} (hT : TT T) (hD : DI Z B S W) (hs : s ≤ 200) (hr : hrB K Z B S ((s : Nat) : Int) = false) : Runs mX0_addFile 4 0 0 [vR 1, vI ((s : Nat) : Int)] N T (sa (sa (sa (sa (sa (sa (sa (sa (sa v 9 P) 8 W) 7 S) 6 B) 5 Z) 4 Rk) 3 O) 2 K) 1 G) (some (vI (-1))) N T (sa (sa (sa (sa (sa (sa (sa (sa (sa v 9 P) 8 W) 7 S) 6 B) 5 Z) 4 Rk) 3 O) 2 K) 1 (rs G 8 (wr (G 8 + 1)))) := by
  refine Runs.of (by decide) (Nat.le_of_ble_eq_true rfl) fun κ C => ?_
  refine M_aload_n (pc := 0) C dX0_addFile_0 rfl (by decide) ?_
  refine M_iload_n (pc := 1) C dX0_addFile_1 rfl ?_
  refine A_cV (pc := 2) C (x := vI (Bi (hrB K Z B S ((s : Nat) : Int)))) (a := 1) (c := 0) (c_X0_hasRoomFor hT hD (s := ((s : Nat) : Int)) (by omega)) yw_X0_hasRoomFor lk_X0_108 rfl (congrArg Prod.fst (tt_1 hT)) hc_0 rfl dX0_addFile_2 rfl (Nat.le_of_ble_eq_true rfl) (by decide) ⟨Nat.le_refl _, Nat.le_refl _⟩ ?_
  refine M_if_ne (pc := 5) C (tgt := 20) (Bi_i32 _) dX0_addFile_5 (by decide) (fun h => absurd hr (by rw [Bi_ne0 h]; decide)) (fun _ => ?_)
  refine M_aload_n (pc := 8) C dX0_addFile_8 rfl (by decide) ?_
  refine M_dup (pc := 9) C rfl dX0_addFile_9 ?_
  refine A_getI (pc := 10) C fl_X0_36 rfl (a := 1) rfl (tt_1 hT) dX0_addFile_10 (fun (r_10 : i32 (G 8)) => ?_)
  refine M.to (pc := 13) (st2 := [vI (G 8), vR 1]) ?_ rfl rfl rfl
  refine M_iconst (pc := 13) C dX0_addFile_13 ?_
  refine M_iadd (pc := 14) C dX0_addFile_14 ?_
  refine M_wr (pc := 15) ?_
  refine A_putI (pc := 15) C fl_X0_36 rfl (by decide) (a := 1) rfl (tt_1 hT) (wr_i32 _) dX0_addFile_15 ?_
  refine M.to (pc := 18) (v2 := sa (sa (sa (sa (sa (sa (sa (sa (sa v 9 P) 8 W) 7 S) 6 B) 5 Z) 4 Rk) 3 O) 2 K) 1 (rs G 8 (wr ((G 8) + 1)))) ?_ rfl rfl (by rw [sa_up0])
  refine M_iconst (pc := 18) C dX0_addFile_18 ?_
  exact M_iret (pc := 19) C rfl dX0_addFile_19 rfl rfl
theorem c_X0_addFile_y {N : Nat} {T : Ty} {P W S B Z Rk O K G : Nat → Int} {s f : Nat} {v : Ct} (hT : TT T) (hD : DI Z B S W) (hs : s ≤ 200) (hr : hrB K Z B S ((s : Nat) : Int) = true) (hl : lnN Z = (f : Int)) : Runs mX0_addFile 4 0 0 [vR 1, vI ((s : Nat) : Int)] N T (sa (sa (sa (sa (sa (sa (sa (sa (sa v 9 P) 8 W) 7 S) 6 B) 5 Z) 4 Rk) 3 O) 2 K) 1 G) (some (vI ((f : Nat) : Int))) N T (sa (sa (sa (sa (sa (sa (sa (sa (sa v 9 (rbQ f K (rs Z f 0) B S O Rk P (G 10) 0 s)) 8 W) 7 (rbS f K (rs Z f 0) B S O Rk (G 10) 0 s)) 6 (rbB f K (rs Z f 0) B S O Rk (G 10) 0 s)) 5 (rs (rs Z f 0) f ((s : Nat) : Int))) 4 ((rbD f K (rs Z f 0) B S O Rk 0 s).2.2.1)) 3 ((rbD f K (rs Z f 0) B S O Rk 0 s).2.1)) 2 (rbK f K (rs Z f 0) B S O Rk (G 10) 0 s)) 1 G) := by
  obtain ⟨hf, hzf⟩ := lnN_z hl
  have hbf : B f = -1 := Decidable.byContradiction (fun q => by have := ((hD f hf).2.1 q).2.1; omega)
  have hD0 : DI (rs Z f 0) B S W := DI_size hD (by decide) (Or.inl hbf)
  refine Runs.of (by decide) (Nat.le_of_ble_eq_true rfl) fun κ C => ?_
  refine M_aload_n (pc := 0) C dX0_addFile_0 rfl (by decide) ?_
  refine M_iload_n (pc := 1) C dX0_addFile_1 rfl ?_
  refine A_cV (pc := 2) C (x := vI (Bi (hrB K Z B S ((s : Nat) : Int)))) (a := 1) (c := 0) (c_X0_hasRoomFor hT hD (s := ((s : Nat) : Int)) (by omega)) yw_X0_hasRoomFor lk_X0_108 rfl (congrArg Prod.fst (tt_1 hT)) hc_0 rfl dX0_addFile_2 rfl (Nat.le_of_ble_eq_true rfl) (by decide) ⟨Nat.le_refl _, Nat.le_refl _⟩ ?_
  refine M_if_ne (pc := 5) C (tgt := 20) (Bi_i32 _) dX0_addFile_5 (by decide) (fun _ => ?_) (fun h => absurd hr (by rw [Bi_eq0 h]; decide))
  refine M_aload_n (pc := 20) C dX0_addFile_20 rfl (by decide) ?_
  refine A_cV (pc := 21) C (x := vI (lnN Z)) (a := 1) (c := 0) (c_X0_lowestNumber hT) yw_X0_lowestNumber lk_X0_98 rfl (congrArg Prod.fst (tt_1 hT)) hc_0 rfl dX0_addFile_21 rfl (Nat.le_of_ble_eq_true rfl) (by decide) ⟨Nat.le_refl _, Nat.le_refl _⟩ ?_
  have hln_21 := lnN_bd Z
  refine M.to (st2 := [vI ((f : Nat) : Int)]) ?_ rfl (by rw [← hl] <;> rfl) rfl
  refine M_istore_n (pc := 24) C dX0_addFile_24 (by decide) ?_
  refine M_iload_n (pc := 25) C dX0_addFile_25 rfl ?_
  refine M_if_lt (pc := 26) C (tgt := 48) (by omega) dX0_addFile_26 (by decide) (fun h_26 => ?_) (fun h_26 => ?_)
  · exfalso
    omega
  · refine M_iload_n (pc := 29) C dX0_addFile_29 rfl ?_
    refine M_bipush (pc := 30) C (by decide) dX0_addFile_30 ?_
    refine M_icmp_ge (pc := 32) C (tgt := 48) (by omega) (by omega) dX0_addFile_32 (by decide) (fun h_32 => ?_) (fun h_32 => ?_)
    · exfalso
      omega
    · refine M_aload_n (pc := 35) C dX0_addFile_35 rfl (by decide) ?_
      refine A_getR (pc := 36) C fl_X0_21 rfl (a := 1) (j := 5) rfl (tt_1 hT) (by decide) dX0_addFile_36 ?_
      refine M_iload_n (pc := 39) C dX0_addFile_39 rfl ?_
      refine M_iconst (pc := 40) C dX0_addFile_40 ?_
      refine A_iast (pc := 41) C (a := 5) (q := f) rfl (tt_5 hT) (by decide) rfl (by omega) (by omega) dX0_addFile_41 ?_
      refine M.to (pc := 42) (v2 := sa (sa (sa (sa (sa (sa (sa (sa (sa v 9 P) 8 W) 7 S) 6 B) 5 (rs Z f 0)) 4 Rk) 3 O) 2 K) 1 G) ?_ rfl rfl (by rw [sa_up1 (by decide), sa_up1 (by decide), sa_up1 (by decide), sa_up1 (by decide), sa_up0])
      refine M_aload_n (pc := 42) C dX0_addFile_42 rfl (by decide) ?_
      refine M_iload_n (pc := 43) C dX0_addFile_43 rfl ?_
      refine M_iload_n (pc := 44) C dX0_addFile_44 rfl ?_
      refine A_cVv (pc := 45) C (a := 1) (c := 0) (c_X0_rebuild hT (v := v) (P := P) (W := W) (S := S) (B := B) (Z := rs Z f 0) (Rk := Rk) (O := O) (K := K) (G := G) (f := f) (z := 0) (s := s) hD0 (by omega) (rs_eq _ _ _) (by omega) (by omega)) yw_X0_rebuild lk_X0_111 rfl (congrArg Prod.fst (tt_1 hT)) hc_0 rfl dX0_addFile_45 rfl (Nat.le_of_ble_eq_true rfl) (by decide) ⟨Nat.le_refl _, Nat.le_refl _⟩ ?_
      refine M_iload_n (pc := 48) C dX0_addFile_48 rfl ?_
      exact M_iret (pc := 49) C rfl dX0_addFile_49 rfl rfl
theorem c_X0_extend_m {N : Nat} {T : Ty} {P W S B Z Rk O K G : Nat → Int} {f z n : Nat} {v : Ct} (hT : TT T) (hD : DI Z B S W) (hf : f < 10) (hz2 : Z f = (z : Int)) (hn : 1 ≤ n ∧ n ≤ 200) (hg : goN K Z B S W f ((n : Nat) : Int) = -1) : Runs mX0_extend 4 0 0 [vR 1, vI ((f : Nat) : Int), vI ((n : Nat) : Int)] N T (sa (sa (sa (sa (sa (sa (sa (sa (sa v 9 P) 8 W) 7 S) 6 B) 5 Z) 4 Rk) 3 O) 2 K) 1 G) (some (vI (-1))) N T (sa (sa (sa (sa (sa (sa (sa (sa (sa v 9 P) 8 W) 7 S) 6 B) 5 Z) 4 Rk) 3 O) 2 K) 1 (rs G 8 (wr (G 8 + 1)))) := by
  have hz : Z f ≠ -1 := by omega
  refine Runs.of (by decide) (Nat.le_of_ble_eq_true rfl) fun κ C => ?_
  refine M_aload_n (pc := 0) C dX0_extend_0 rfl (by decide) ?_
  refine M_iload_n (pc := 1) C dX0_extend_1 rfl ?_
  refine M_iload_n (pc := 2) C dX0_extend_2 rfl ?_
  refine A_cV (pc := 3) C (x := vI (goN K Z B S W f ((n : Nat) : Int))) (a := 1) (c := 0) (c_X0_growthOf hT hD (f := f) (n := ((n : Nat) : Int)) (by omega) hz (by omega)) yw_X0_growthOf lk_X0_115 rfl (congrArg Prod.fst (tt_1 hT)) hc_0 rfl dX0_extend_3 rfl (Nat.le_of_ble_eq_true rfl) (by decide) ⟨Nat.le_refl _, Nat.le_refl _⟩ ?_
  have hgo_3 := goN_bd K Z B S W f ((n : Nat) : Int)
  refine M.to (st2 := [vI (-1)]) ?_ rfl (by rw [← hg] <;> rfl) rfl
  refine M_istore_n (pc := 6) C dX0_extend_6 (by decide) ?_
  refine M_iload_n (pc := 7) C dX0_extend_7 rfl ?_
  refine M_iconst (pc := 8) C dX0_extend_8 ?_
  refine M_icmp_eq (pc := 9) C (tgt := 20) (by decide) (by decide) dX0_extend_9 (by decide) (fun _ => ?_) (fun h => absurd h (by decide))
  refine M_aload_n (pc := 20) C dX0_extend_20 rfl (by decide) ?_
  refine M_dup (pc := 21) C rfl dX0_extend_21 ?_
  refine A_getI (pc := 22) C fl_X0_36 rfl (a := 1) rfl (tt_1 hT) dX0_extend_22 (fun (r_22 : i32 (G 8)) => ?_)
  refine M.to (pc := 25) (st2 := [vI (G 8), vR 1]) ?_ rfl rfl rfl
  refine M_iconst (pc := 25) C dX0_extend_25 ?_
  refine M_iadd (pc := 26) C dX0_extend_26 ?_
  refine M_wr (pc := 27) ?_
  refine A_putI (pc := 27) C fl_X0_36 rfl (by decide) (a := 1) rfl (tt_1 hT) (wr_i32 _) dX0_extend_27 ?_
  refine M.to (pc := 30) (v2 := sa (sa (sa (sa (sa (sa (sa (sa (sa v 9 P) 8 W) 7 S) 6 B) 5 Z) 4 Rk) 3 O) 2 K) 1 (rs G 8 (wr ((G 8) + 1)))) ?_ rfl rfl (by rw [sa_up0])
  refine M_goto (pc := 30) C (tgt := 63) dX0_extend_30 (by decide) ?_
  refine M_iload_n (pc := 63) C dX0_extend_63 rfl ?_
  exact M_iret (pc := 64) C rfl dX0_extend_64 rfl rfl
theorem c_X0_extend_0 {N : Nat} {T : Ty} {P W S B Z Rk O K G : Nat → Int} {f z n : Nat} {v : Ct} (hT : TT T) (hD : DI Z B S W) (hf : f < 10) (hz2 : Z f = (z : Int)) (hn : 1 ≤ n ∧ n ≤ 200) (hg : goN K Z B S W f ((n : Nat) : Int) = 0) : Runs mX0_extend 4 0 0 [vR 1, vI ((f : Nat) : Int), vI ((n : Nat) : Int)] N T (sa (sa (sa (sa (sa (sa (sa (sa (sa v 9 P) 8 W) 7 S) 6 B) 5 Z) 4 Rk) 3 O) 2 K) 1 G) (some (vI 0)) N T (sa (sa (sa (sa (sa (sa (sa (sa (sa v 9 P) 8 W) 7 S) 6 B) 5 (rs Z f ((z + n : Nat) : Int))) 4 Rk) 3 O) 2 K) 1 G) := by
  have hz : Z f ≠ -1 := by omega
  have hle := goN_le (by rw [hg]; decide : goN K Z B S W f ((n : Nat) : Int) ≠ -1)
  refine Runs.of (by decide) (Nat.le_of_ble_eq_true rfl) fun κ C => ?_
  refine M_aload_n (pc := 0) C dX0_extend_0 rfl (by decide) ?_
  refine M_iload_n (pc := 1) C dX0_extend_1 rfl ?_
  refine M_iload_n (pc := 2) C dX0_extend_2 rfl ?_
  refine A_cV (pc := 3) C (x := vI (goN K Z B S W f ((n : Nat) : Int))) (a := 1) (c := 0) (c_X0_growthOf hT hD (f := f) (n := ((n : Nat) : Int)) (by omega) hz (by omega)) yw_X0_growthOf lk_X0_115 rfl (congrArg Prod.fst (tt_1 hT)) hc_0 rfl dX0_extend_3 rfl (Nat.le_of_ble_eq_true rfl) (by decide) ⟨Nat.le_refl _, Nat.le_refl _⟩ ?_
  have hgo_3 := goN_bd K Z B S W f ((n : Nat) : Int)
  refine M.to (st2 := [vI 0]) ?_ rfl (by rw [← hg] <;> rfl) rfl
  refine M_istore_n (pc := 6) C dX0_extend_6 (by decide) ?_
  refine M_iload_n (pc := 7) C dX0_extend_7 rfl ?_
  refine M_iconst (pc := 8) C dX0_extend_8 ?_
  refine M_icmp_eq (pc := 9) C (tgt := 20) (by decide) (by decide) dX0_extend_9 (by decide) (fun h => absurd h (by decide)) (fun _ => ?_)
  refine M_aload_n (pc := 12) C dX0_extend_12 rfl (by decide) ?_
  refine M_iload_n (pc := 13) C dX0_extend_13 rfl ?_
  refine A_cV (pc := 14) C (x := vI (Bi (decide (Z f ≠ -1)))) (a := 1) (c := 0) (c_X0_exists_n hT (f := f) (by omega)) yw_X0_exists lk_X0_46 rfl (congrArg Prod.fst (tt_1 hT)) hc_0 rfl dX0_extend_14 rfl (Nat.le_of_ble_eq_true rfl) (by decide) ⟨Nat.le_refl _, Nat.le_refl _⟩ ?_
  refine M_rd (pc := 17) C 5 f (fun (r_14_0 : i32 (Z f)) => ?_)
  refine M_if_ne (pc := 17) C (tgt := 33) (Bi_i32 _) dX0_extend_17 (by decide) (fun h_17 => ?_) (fun h_17 => ?_)
  · have b_17 := Bid_ne0 h_17
    refine M_iload_n (pc := 33) C dX0_extend_33 rfl ?_
    refine M_if_ne (pc := 34) C (tgt := 50) (by decide) dX0_extend_34 (by decide) (fun h => absurd h (by decide)) (fun _ => ?_)
    refine M_aload_n (pc := 37) C dX0_extend_37 rfl (by decide) ?_
    refine A_getR (pc := 38) C fl_X0_21 rfl (a := 1) (j := 5) rfl (tt_1 hT) (by decide) dX0_extend_38 ?_
    refine M_iload_n (pc := 41) C dX0_extend_41 rfl ?_
    refine M_dup2 (pc := 42) C rfl rfl dX0_extend_42 ?_
    refine A_iald (pc := 43) C (a := 5) (q := f) rfl (tt_5 hT) (by decide) rfl (by omega) dX0_extend_43 (fun (r_43 : i32 (Z f)) => ?_)
    refine M.to (pc := 44) (st2 := [vI (Z f), vI ((f : Nat) : Int), vR 5]) ?_ rfl rfl rfl
    refine M_iload_n (pc := 44) C dX0_extend_44 rfl ?_
    refine M_iadd (pc := 45) C dX0_extend_45 ?_
    refine M.to (st2 := [vI ((z + n : Nat) : Int), vI ((f : Nat) : Int), vR 5]) ?_ rfl (by rw [show Z f + ((n : Nat) : Int) = ((z + n : Nat) : Int) by omega]) rfl
    refine A_iast (pc := 46) C (a := 5) (q := f) rfl (tt_5 hT) (by decide) rfl (by omega) (by omega) dX0_extend_46 ?_
    refine M.to (pc := 47) (v2 := sa (sa (sa (sa (sa (sa (sa (sa (sa v 9 P) 8 W) 7 S) 6 B) 5 (rs Z f ((z + n : Nat) : Int))) 4 Rk) 3 O) 2 K) 1 G) ?_ rfl rfl (by rw [sa_up1 (by decide), sa_up1 (by decide), sa_up1 (by decide), sa_up1 (by decide), sa_up0])
    refine M_goto (pc := 47) C (tgt := 63) dX0_extend_47 (by decide) ?_
    refine M_iload_n (pc := 63) C dX0_extend_63 rfl ?_
    exact M_iret (pc := 64) C rfl dX0_extend_64 rfl rfl
  · have b_17 := Bid_eq0 h_17
    exact absurd hz b_17
theorem c_X0_extend_1 {N : Nat} {T : Ty} {P W S B Z Rk O K G : Nat → Int} {f z n : Nat} {v : Ct} (hT : TT T) (hD : DI Z B S W) (hf : f < 10) (hz2 : Z f = (z : Int)) (hn : 1 ≤ n ∧ n ≤ 200) (hg : goN K Z B S W f ((n : Nat) : Int) = 1) : Runs mX0_extend 4 0 0 [vR 1, vI ((f : Nat) : Int), vI ((n : Nat) : Int)] N T (sa (sa (sa (sa (sa (sa (sa (sa (sa v 9 P) 8 W) 7 S) 6 B) 5 Z) 4 Rk) 3 O) 2 K) 1 G) (some (vI 1)) N T (sa (sa (sa (sa (sa (sa (sa (sa (sa v 9 (rbQ f K Z B S O Rk P (G 10) z (z + n))) 8 W) 7 (rbS f K Z B S O Rk (G 10) z (z + n))) 6 (rbB f K Z B S O Rk (G 10) z (z + n))) 5 (rs Z f ((z + n : Nat) : Int))) 4 ((rbD f K Z B S O Rk z (z + n)).2.2.1)) 3 ((rbD f K Z B S O Rk z (z + n)).2.1)) 2 (rbK f K Z B S O Rk (G 10) z (z + n))) 1 G) := by
  have hz : Z f ≠ -1 := by omega
  have hle := goN_le (by rw [hg]; decide : goN K Z B S W f ((n : Nat) : Int) ≠ -1)
  refine Runs.of (by decide) (Nat.le_of_ble_eq_true rfl) fun κ C => ?_
  refine M_aload_n (pc := 0) C dX0_extend_0 rfl (by decide) ?_
  refine M_iload_n (pc := 1) C dX0_extend_1 rfl ?_
  refine M_iload_n (pc := 2) C dX0_extend_2 rfl ?_
  refine A_cV (pc := 3) C (x := vI (goN K Z B S W f ((n : Nat) : Int))) (a := 1) (c := 0) (c_X0_growthOf hT hD (f := f) (n := ((n : Nat) : Int)) (by omega) hz (by omega)) yw_X0_growthOf lk_X0_115 rfl (congrArg Prod.fst (tt_1 hT)) hc_0 rfl dX0_extend_3 rfl (Nat.le_of_ble_eq_true rfl) (by decide) ⟨Nat.le_refl _, Nat.le_refl _⟩ ?_
  have hgo_3 := goN_bd K Z B S W f ((n : Nat) : Int)
  refine M.to (st2 := [vI 1]) ?_ rfl (by rw [← hg] <;> rfl) rfl
  refine M_istore_n (pc := 6) C dX0_extend_6 (by decide) ?_
  refine M_iload_n (pc := 7) C dX0_extend_7 rfl ?_
  refine M_iconst (pc := 8) C dX0_extend_8 ?_
  refine M_icmp_eq (pc := 9) C (tgt := 20) (by decide) (by decide) dX0_extend_9 (by decide) (fun h => absurd h (by decide)) (fun _ => ?_)
  refine M_aload_n (pc := 12) C dX0_extend_12 rfl (by decide) ?_
  refine M_iload_n (pc := 13) C dX0_extend_13 rfl ?_
  refine A_cV (pc := 14) C (x := vI (Bi (decide (Z f ≠ -1)))) (a := 1) (c := 0) (c_X0_exists_n hT (f := f) (by omega)) yw_X0_exists lk_X0_46 rfl (congrArg Prod.fst (tt_1 hT)) hc_0 rfl dX0_extend_14 rfl (Nat.le_of_ble_eq_true rfl) (by decide) ⟨Nat.le_refl _, Nat.le_refl _⟩ ?_
  refine M_rd (pc := 17) C 5 f (fun (r_14_0 : i32 (Z f)) => ?_)
  refine M_if_ne (pc := 17) C (tgt := 33) (Bi_i32 _) dX0_extend_17 (by decide) (fun h_17 => ?_) (fun h_17 => ?_)
  · have b_17 := Bid_ne0 h_17
    refine M_iload_n (pc := 33) C dX0_extend_33 rfl ?_
    refine M_if_ne (pc := 34) C (tgt := 50) (by decide) dX0_extend_34 (by decide) (fun _ => ?_) (fun h => absurd h (by decide))
    refine M_aload_n (pc := 50) C dX0_extend_50 rfl (by decide) ?_
    refine M_iload_n (pc := 51) C dX0_extend_51 rfl ?_
    refine M_aload_n (pc := 52) C dX0_extend_52 rfl (by decide) ?_
    refine A_getR (pc := 53) C fl_X0_21 rfl (a := 1) (j := 5) rfl (tt_1 hT) (by decide) dX0_extend_53 ?_
    refine M_iload_n (pc := 56) C dX0_extend_56 rfl ?_
    refine A_iald (pc := 57) C (a := 5) (q := f) rfl (tt_5 hT) (by decide) rfl (by omega) dX0_extend_57 (fun (r_57 : i32 (Z f)) => ?_)
    refine M.to (pc := 58) (st2 := [vI (Z f), vI ((f : Nat) : Int), vR 1]) ?_ rfl rfl rfl
    refine M_iload_n (pc := 58) C dX0_extend_58 rfl ?_
    refine M_iadd (pc := 59) C dX0_extend_59 ?_
    refine M.to (st2 := [vI ((z + n : Nat) : Int), vI ((f : Nat) : Int), vR 1]) ?_ rfl (by rw [show Z f + ((n : Nat) : Int) = ((z + n : Nat) : Int) by omega]) rfl
    refine A_cVv (pc := 60) C (a := 1) (c := 0) (c_X0_rebuild hT (v := v) (P := P) (W := W) (S := S) (B := B) (Z := Z) (Rk := Rk) (O := O) (K := K) (G := G) (f := f) (z := z) (s := z + n) hD (by omega) hz2 (by omega) (by omega)) yw_X0_rebuild lk_X0_111 rfl (congrArg Prod.fst (tt_1 hT)) hc_0 rfl dX0_extend_60 rfl (Nat.le_of_ble_eq_true rfl) (by decide) ⟨Nat.le_refl _, Nat.le_refl _⟩ ?_
    refine M_iload_n (pc := 63) C dX0_extend_63 rfl ?_
    exact M_iret (pc := 64) C rfl dX0_extend_64 rfl rfl
  · have b_17 := Bid_eq0 h_17
    exact absurd hz b_17
theorem c_X0_shorten_r {N : Nat} {T : Ty} {P W S B Z Rk O K G : Nat → Int} {f z n : Nat} {v : Ct} (hT : TT T) (hD : DI Z B S W) (hf : f < 10) (hz2 : Z f = (z : Int)) (hz3 : z ≤ 200) (hn : 1 ≤ n ∧ n ≤ 200) (hW : W f ≠ 1) (hle : n ≤ z) (hd : (z - n) / 16 ≠ z / 16) : Runs mX0_shorten 4 0 0 [vR 1, vI ((f : Nat) : Int), vI ((n : Nat) : Int)] N T (sa (sa (sa (sa (sa (sa (sa (sa (sa v 9 P) 8 W) 7 S) 6 B) 5 Z) 4 Rk) 3 O) 2 K) 1 G) (some (vI ((z - n : Nat) : Int))) N T (sa (sa (sa (sa (sa (sa (sa (sa (sa v 9 (rbQ f K Z B S O Rk P (G 10) z (z - n))) 8 W) 7 (rbS f K Z B S O Rk (G 10) z (z - n))) 6 (rbB f K Z B S O Rk (G 10) z (z - n))) 5 (rs Z f ((z - n : Nat) : Int))) 4 ((rbD f K Z B S O Rk z (z - n)).2.2.1)) 3 ((rbD f K Z B S O Rk z (z - n)).2.1)) 2 (rbK f K Z B S O Rk (G 10) z (z - n))) 1 G) := by
  have hz : Z f ≠ -1 := by omega
  refine Runs.of (by decide) (Nat.le_of_ble_eq_true rfl) fun κ C => ?_
  refine M_aload_n (pc := 0) C dX0_shorten_0 rfl (by decide) ?_
  refine M_iload_n (pc := 1) C dX0_shorten_1 rfl ?_
  refine A_cV (pc := 2) C (x := vI (Bi (decide (Z f ≠ -1)))) (a := 1) (c := 0) (c_X0_exists_n hT (f := f) (by omega)) yw_X0_exists lk_X0_46 rfl (congrArg Prod.fst (tt_1 hT)) hc_0 rfl dX0_shorten_2 rfl (Nat.le_of_ble_eq_true rfl) (by decide) ⟨Nat.le_refl _, Nat.le_refl _⟩ ?_
  refine M_rd (pc := 5) C 5 f (fun (r_2_0 : i32 (Z f)) => ?_)
  refine M_if_eq (pc := 5) C (tgt := 28) (Bi_i32 _) dX0_shorten_5 (by decide) (fun h_5 => ?_) (fun h_5 => ?_)
  · have b_5 := Bid_eq0 h_5
    exact absurd hz b_5
  · have b_5 := Bid_ne0 h_5
    refine M_aload_n (pc := 8) C dX0_shorten_8 rfl (by decide) ?_
    refine A_getR (pc := 9) C fl_X0_30 rfl (a := 1) (j := 8) rfl (tt_1 hT) (by decide) dX0_shorten_9 ?_
    refine M_iload_n (pc := 12) C dX0_shorten_12 rfl ?_
    refine A_iald (pc := 13) C (a := 8) (q := f) rfl (tt_8 hT) (by decide) rfl (by omega) dX0_shorten_13 (fun (r_13 : i32 (W f)) => ?_)
    refine M.to (pc := 14) (st2 := [vI (W f)]) ?_ rfl rfl rfl
    refine M_iconst (pc := 14) C dX0_shorten_14 ?_
    refine M_icmp_eq (pc := 15) C (tgt := 28) (by omega) (by omega) dX0_shorten_15 (by decide) (fun h_15 => ?_) (fun h_15 => ?_)
    · exfalso
      omega
    · refine M_aload_n (pc := 18) C dX0_shorten_18 rfl (by decide) ?_
      refine A_getR (pc := 19) C fl_X0_21 rfl (a := 1) (j := 5) rfl (tt_1 hT) (by decide) dX0_shorten_19 ?_
      refine M_iload_n (pc := 22) C dX0_shorten_22 rfl ?_
      refine A_iald (pc := 23) C (a := 5) (q := f) rfl (tt_5 hT) (by decide) rfl (by omega) dX0_shorten_23 (fun (r_23 : i32 (Z f)) => ?_)
      refine M.to (pc := 24) (st2 := [vI (Z f)]) ?_ rfl rfl rfl
      refine M_iload_n (pc := 24) C dX0_shorten_24 rfl ?_
      refine M_icmp_ge (pc := 25) C (tgt := 40) (by omega) (by omega) dX0_shorten_25 (by decide) (fun h_25 => ?_) (fun h_25 => ?_)
      · refine M_aload_n (pc := 40) C dX0_shorten_40 rfl (by decide) ?_
        refine A_getR (pc := 41) C fl_X0_21 rfl (a := 1) (j := 5) rfl (tt_1 hT) (by decide) dX0_shorten_41 ?_
        refine M_iload_n (pc := 44) C dX0_shorten_44 rfl ?_
        refine A_iald (pc := 45) C (a := 5) (q := f) rfl (tt_5 hT) (by decide) rfl (by omega) dX0_shorten_45 (fun (r_45 : i32 (Z f)) => ?_)
        refine M.to (pc := 46) (st2 := [vI (Z f)]) ?_ rfl rfl rfl
        refine M_iload_n (pc := 46) C dX0_shorten_46 rfl ?_
        refine M_isub (pc := 47) C dX0_shorten_47 ?_
        refine M.to (st2 := [vI ((z - n : Nat) : Int)]) ?_ rfl (by rw [show Z f - ((n : Nat) : Int) = ((z - n : Nat) : Int) by omega]) rfl
        refine M_istore_n (pc := 48) C dX0_shorten_48 (by decide) ?_
        refine M_iload_n (pc := 49) C dX0_shorten_49 rfl ?_
        refine M_bipush (pc := 50) C (by decide) dX0_shorten_50 ?_
        refine M_idiv (pc := 52) C (by omega) (by decide) dX0_shorten_52 ?_
        refine M_aload_n (pc := 53) C dX0_shorten_53 rfl (by decide) ?_
        refine A_getR (pc := 54) C fl_X0_21 rfl (a := 1) (j := 5) rfl (tt_1 hT) (by decide) dX0_shorten_54 ?_
        refine M_iload_n (pc := 57) C dX0_shorten_57 rfl ?_
        refine A_iald (pc := 58) C (a := 5) (q := f) rfl (tt_5 hT) (by decide) rfl (by omega) dX0_shorten_58 (fun (r_58 : i32 (Z f)) => ?_)
        refine M.to (pc := 59) (st2 := [vI (Z f), vI (((z - n : Nat) : Int) / 16)]) ?_ rfl rfl rfl
        refine M_bipush (pc := 59) C (by decide) dX0_shorten_59 ?_
        refine M_idiv (pc := 61) C (by omega) (by decide) dX0_shorten_61 ?_
        refine M_icmp_eq (pc := 62) C (tgt := 73) (by omega) (by omega) dX0_shorten_62 (by decide) (fun h_62 => ?_) (fun h_62 => ?_)
        · exfalso
          omega
        · refine M_aload_n (pc := 65) C dX0_shorten_65 rfl (by decide) ?_
          refine M_iload_n (pc := 66) C dX0_shorten_66 rfl ?_
          refine M_iload_n (pc := 67) C dX0_shorten_67 rfl ?_
          refine A_cVv (pc := 68) C (a := 1) (c := 0) (c_X0_rebuild hT (v := v) (P := P) (W := W) (S := S) (B := B) (Z := Z) (Rk := Rk) (O := O) (K := K) (G := G) (f := f) (z := z) (s := z - n) hD (by omega) hz2 (by omega) (by omega)) yw_X0_rebuild lk_X0_111 rfl (congrArg Prod.fst (tt_1 hT)) hc_0 rfl dX0_shorten_68 rfl (Nat.le_of_ble_eq_true rfl) (by decide) ⟨Nat.le_refl _, Nat.le_refl _⟩ ?_
          refine M_iload_n (pc := 71) C dX0_shorten_71 rfl ?_
          exact M_iret (pc := 72) C rfl dX0_shorten_72 rfl rfl
      · exfalso
        omega
theorem c_X0_removeFile {N : Nat} {T : Ty} {P W S B Z Rk O K G : Nat → Int} {f : Nat} {v : Ct} (hT : TT T) (hD : DI Z B S W) (hf : f < 10) (hz : Z f ≠ -1) : Runs mX0_removeFile 3 0 0 [vR 1, vI ((f : Nat) : Int)] N T (sa (sa (sa (sa (sa (sa (sa (sa (sa v 9 P) 8 W) 7 S) 6 B) 5 Z) 4 Rk) 3 O) 2 K) 1 G) (some (vI (dtV K Z B S f + (((dwS2 ((f : Nat) : Int) 0 (dtK K Z B S f) O Rk 24).2.2.2 : Nat) : Int)))) N T (sa (sa (sa (sa (sa (sa (sa (sa (sa v 9 (rs P f 0)) 8 (rs W f 0)) 7 (rs S f (-1))) 6 (rs B f (-1))) 5 (rs Z f (-1))) 4 ((dwS2 ((f : Nat) : Int) 0 (dtK K Z B S f) O Rk 24).2.2.1)) 3 ((dwS2 ((f : Nat) : Int) 0 (dtK K Z B S f) O Rk 24).2.1)) 2 ((dwS2 ((f : Nat) : Int) 0 (dtK K Z B S f) O Rk 24).1)) 1 G) := by
  refine Runs.of (by decide) (Nat.le_of_ble_eq_true rfl) fun κ C => ?_
  refine M_aload_n (pc := 0) C dX0_removeFile_0 rfl (by decide) ?_
  refine M_iload_n (pc := 1) C dX0_removeFile_1 rfl ?_
  refine A_cV (pc := 2) C (x := vI (Bi (decide (Z f ≠ -1)))) (a := 1) (c := 0) (c_X0_exists_n hT (f := f) (by omega)) yw_X0_exists lk_X0_46 rfl (congrArg Prod.fst (tt_1 hT)) hc_0 rfl dX0_removeFile_2 rfl (Nat.le_of_ble_eq_true rfl) (by decide) ⟨Nat.le_refl _, Nat.le_refl _⟩ ?_
  refine M_rd (pc := 5) C 5 f (fun (r_2_0 : i32 (Z f)) => ?_)
  refine M_if_ne (pc := 5) C (tgt := 10) (Bi_i32 _) dX0_removeFile_5 (by decide) (fun h_5 => ?_) (fun h_5 => ?_)
  · have b_5 := Bid_ne0 h_5
    refine M_aload_n (pc := 10) C dX0_removeFile_10 rfl (by decide) ?_
    refine M_iload_n (pc := 11) C dX0_removeFile_11 rfl ?_
    refine A_cV (pc := 12) C (x := vI (dtV K Z B S f)) (a := 1) (c := 0) (c_X0_dropTail hT (v := v) (P := P) (W := W) (S := S) (B := B) (Z := Z) (Rk := Rk) (O := O) (K := K) (G := G) (f := f) hD (by omega) hz) yw_X0_dropTail lk_X0_118 rfl (congrArg Prod.fst (tt_1 hT)) hc_0 rfl dX0_removeFile_12 rfl (Nat.le_of_ble_eq_true rfl) (by decide) ⟨Nat.le_refl _, Nat.le_refl _⟩ ?_
    have hdt_12 := dtV_bd K Z B S f
    refine M_aload_n (pc := 15) C dX0_removeFile_15 rfl (by decide) ?_
    refine M_iload_n (pc := 16) C dX0_removeFile_16 rfl ?_
    refine M_iconst (pc := 17) C dX0_removeFile_17 ?_
    refine A_cV (pc := 18) C (x := vI (((dwS2 ((f : Nat) : Int) 0 (dtK K Z B S f) O Rk 24).2.2.2 : Nat) : Int)) (a := 1) (c := 0) (c_X0_dropWholes hT (v := v) (P := P) (W := W) (S := rs S f (-1)) (B := rs B f (-1)) (Z := Z) (Rk := Rk) (O := O) (K := dtK K Z B S f) (G := G) (f := f) (lf := 0) (by omega) (by omega)) yw_X0_dropWholes lk_X0_121 rfl (congrArg Prod.fst (tt_1 hT)) hc_0 rfl dX0_removeFile_18 rfl (Nat.le_of_ble_eq_true rfl) (by decide) ⟨Nat.le_refl _, Nat.le_refl _⟩ ?_
    have hdw_18 := dwS2_bd ((f : Nat) : Int) 0 (dtK K Z B S f) O Rk 24
    refine M_iadd (pc := 21) C dX0_removeFile_21 ?_
    refine M_istore_n (pc := 22) C dX0_removeFile_22 (by decide) ?_
    refine M_aload_n (pc := 23) C dX0_removeFile_23 rfl (by decide) ?_
    refine A_getR (pc := 24) C fl_X0_21 rfl (a := 1) (j := 5) rfl (tt_1 hT) (by decide) dX0_removeFile_24 ?_
    refine M_iload_n (pc := 27) C dX0_removeFile_27 rfl ?_
    refine M_iconst (pc := 28) C dX0_removeFile_28 ?_
    refine A_iast (pc := 29) C (a := 5) (q := f) rfl (tt_5 hT) (by decide) rfl (by omega) (by omega) dX0_removeFile_29 ?_
    refine M.to (pc := 30) (v2 := sa (sa (sa (sa (sa (sa (sa (sa (sa v 9 P) 8 W) 7 (rs S f (-1))) 6 (rs B f (-1))) 5 (rs Z f (-1))) 4 ((dwS2 ((f : Nat) : Int) 0 (dtK K Z B S f) O Rk 24).2.2.1)) 3 ((dwS2 ((f : Nat) : Int) 0 (dtK K Z B S f) O Rk 24).2.1)) 2 ((dwS2 ((f : Nat) : Int) 0 (dtK K Z B S f) O Rk 24).1)) 1 G) ?_ rfl rfl (by rw [sa_up1 (by decide), sa_up1 (by decide), sa_up1 (by decide), sa_up1 (by decide), sa_up0])
    refine M_aload_n (pc := 30) C dX0_removeFile_30 rfl (by decide) ?_
    refine A_getR (pc := 31) C fl_X0_30 rfl (a := 1) (j := 8) rfl (tt_1 hT) (by decide) dX0_removeFile_31 ?_
    refine M_iload_n (pc := 34) C dX0_removeFile_34 rfl ?_
    refine M_iconst (pc := 35) C dX0_removeFile_35 ?_
    refine A_iast (pc := 36) C (a := 8) (q := f) rfl (tt_8 hT) (by decide) rfl (by omega) (by omega) dX0_removeFile_36 ?_
    refine M.to (pc := 37) (v2 := sa (sa (sa (sa (sa (sa (sa (sa (sa v 9 P) 8 (rs W f 0)) 7 (rs S f (-1))) 6 (rs B f (-1))) 5 (rs Z f (-1))) 4 ((dwS2 ((f : Nat) : Int) 0 (dtK K Z B S f) O Rk 24).2.2.1)) 3 ((dwS2 ((f : Nat) : Int) 0 (dtK K Z B S f) O Rk 24).2.1)) 2 ((dwS2 ((f : Nat) : Int) 0 (dtK K Z B S f) O Rk 24).1)) 1 G) ?_ rfl rfl (by rw [sa_up1 (by decide), sa_up1 (by decide), sa_up1 (by decide), sa_up1 (by decide), sa_up1 (by decide), sa_up1 (by decide), sa_up1 (by decide), sa_up0])
    refine M_aload_n (pc := 37) C dX0_removeFile_37 rfl (by decide) ?_
    refine A_getR (pc := 38) C fl_X0_33 rfl (a := 1) (j := 9) rfl (tt_1 hT) (by decide) dX0_removeFile_38 ?_
    refine M_iload_n (pc := 41) C dX0_removeFile_41 rfl ?_
    refine M_iconst (pc := 42) C dX0_removeFile_42 ?_
    refine A_iast (pc := 43) C (a := 9) (q := f) rfl (tt_9 hT) (by decide) rfl (by omega) (by omega) dX0_removeFile_43 ?_
    refine M.to (pc := 44) (v2 := sa (sa (sa (sa (sa (sa (sa (sa (sa v 9 (rs P f 0)) 8 (rs W f 0)) 7 (rs S f (-1))) 6 (rs B f (-1))) 5 (rs Z f (-1))) 4 ((dwS2 ((f : Nat) : Int) 0 (dtK K Z B S f) O Rk 24).2.2.1)) 3 ((dwS2 ((f : Nat) : Int) 0 (dtK K Z B S f) O Rk 24).2.1)) 2 ((dwS2 ((f : Nat) : Int) 0 (dtK K Z B S f) O Rk 24).1)) 1 G) ?_ rfl rfl (by rw [sa_up1 (by decide), sa_up1 (by decide), sa_up1 (by decide), sa_up1 (by decide), sa_up1 (by decide), sa_up1 (by decide), sa_up1 (by decide), sa_up1 (by decide), sa_up0])
    refine M_iload_n (pc := 44) C dX0_removeFile_44 rfl ?_
    exact M_iret (pc := 45) C rfl dX0_removeFile_45 rfl rfl
  · have b_5 := Bid_eq0 h_5
    exact absurd hz b_5
