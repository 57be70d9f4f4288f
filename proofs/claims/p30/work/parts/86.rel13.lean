theorem c_X0_shorten_m4 {N : Nat} {T : Ty} {P W S B Z Rk O K G : Nat → Int} {f z n : Nat} {v : Ct} (hT : TT T) (hD : DI Z B S W) (hf : f < 10) (hz2 : Z f = (z : Int)) (hz3 : z ≤ 200) (hn : 1 ≤ n ∧ n ≤ 200) (hg : W f = 1 ∨ z < n) : Runs mX0_shorten 4 0 0 [vR 1, vI ((f : Nat) : Int), vI ((n : Nat) : Int)] N T (sa (sa (sa (sa (sa (sa (sa (sa (sa v 9 P) 8 W) 7 S) 6 B) 5 Z) 4 Rk) 3 O) 2 K) 1 G) (some (vI (-1))) N T (sa (sa (sa (sa (sa (sa (sa (sa (sa v 9 P) 8 W) 7 S) 6 B) 5 Z) 4 Rk) 3 O) 2 K) 1 (rs G 8 (wr (G 8 + 1)))) := by
  have hz : Z f ≠ -1 := by omega
  refine Runs.of (by decide) (Nat.le_of_ble_eq_true rfl) fun κ C => ?_
  refine M_aload_n (pc := 0) C dX0_shorten_0 rfl (by decide) ?_
  refine M_iload_n (pc := 1) C dX0_shorten_1 rfl ?_
  refine A_cV (pc := 2) C (x := vI (Bi (decide (Z f ≠ -1)))) (a := 1) (c := 0) (c_X0_exists_n hT (f := f) (by omega)) yw_X0_exists lk_X0_46 rfl (congrArg Prod.fst (tt_1 hT)) hc_0 rfl dX0_shorten_2 rfl (Nat.le_of_ble_eq_true rfl) (by decide) ⟨Nat.le_refl _, Nat.le_refl _⟩ ?_
  refine M_rd (pc := 5) C 5 f (fun (r_2_0 : i32 (Z f)) => ?_)
  refine M_if_eq (pc := 5) C (tgt := 28) (Bi_i32 _) dX0_shorten_5 (by decide) (fun h_5 => ?_) (fun h_5 => ?_)
  · have b_5 := Bid_eq0 h_5
    exact absurd hz b_5
  · have b_5 := Bid_ne0 h_5
    refine M_aload_n (pc := 8) C dX0_shorten_8 rfl (by decide) ?_
    refine A_getR (pc := 9) C fl_X0_30 rfl (a := 1) (j := 8) rfl (tt_1 hT) (by decide) dX0_shorten_9 ?_
    refine M_iload_n (pc := 12) C dX0_shorten_12 rfl ?_
    refine A_iald (pc := 13) C (a := 8) (q := f) rfl (tt_8 hT) (by decide) rfl (by omega) dX0_shorten_13 (fun (r_13 : i32 (W f)) => ?_)
    refine M.to (pc := 14) (st2 := [vI (W f)]) ?_ rfl rfl rfl
    refine M_iconst (pc := 14) C dX0_shorten_14 ?_
    refine M_icmp_eq (pc := 15) C (tgt := 28) (by omega) (by omega) dX0_shorten_15 (by decide) (fun h_15 => ?_) (fun h_15 => ?_)
    · refine M_aload_n (pc := 28) C dX0_shorten_28 rfl (by decide) ?_
      refine M_dup (pc := 29) C rfl dX0_shorten_29 ?_
      refine A_getI (pc := 30) C fl_X0_36 rfl (a := 1) rfl (tt_1 hT) dX0_shorten_30 (fun (r_30 : i32 (G 8)) => ?_)
      refine M.to (pc := 33) (st2 := [vI (G 8), vR 1]) ?_ rfl rfl rfl
      refine M_iconst (pc := 33) C dX0_shorten_33 ?_
      refine M_iadd (pc := 34) C dX0_shorten_34 ?_
      refine M_wr (pc := 35) ?_
      refine A_putI (pc := 35) C fl_X0_36 rfl (by decide) (a := 1) rfl (tt_1 hT) (wr_i32 _) dX0_shorten_35 ?_
      refine M.to (pc := 38) (v2 := sa (sa (sa (sa (sa (sa (sa (sa (sa v 9 P) 8 W) 7 S) 6 B) 5 Z) 4 Rk) 3 O) 2 K) 1 (rs G 8 (wr ((G 8) + 1)))) ?_ rfl rfl (by rw [sa_up0])
      refine M_iconst (pc := 38) C dX0_shorten_38 ?_
      exact M_iret (pc := 39) C rfl dX0_shorten_39 rfl rfl
    · refine M_aload_n (pc := 18) C dX0_shorten_18 rfl (by decide) ?_
      refine A_getR (pc := 19) C fl_X0_21 rfl (a := 1) (j := 5) rfl (tt_1 hT) (by decide) dX0_shorten_19 ?_
      refine M_iload_n (pc := 22) C dX0_shorten_22 rfl ?_
      refine A_iald (pc := 23) C (a := 5) (q := f) rfl (tt_5 hT) (by decide) rfl (by omega) dX0_shorten_23 (fun (r_23 : i32 (Z f)) => ?_)
      refine M.to (pc := 24) (st2 := [vI (Z f)]) ?_ rfl rfl rfl
      refine M_iload_n (pc := 24) C dX0_shorten_24 rfl ?_
      refine M_icmp_ge (pc := 25) C (tgt := 40) (by omega) (by omega) dX0_shorten_25 (by decide) (fun h_25 => ?_) (fun h_25 => ?_)
      · exfalso
        omega
      · refine M_aload_n (pc := 28) C dX0_shorten_28 rfl (by decide) ?_
        refine M_dup (pc := 29) C rfl dX0_shorten_29 ?_
        refine A_getI (pc := 30) C fl_X0_36 rfl (a := 1) rfl (tt_1 hT) dX0_shorten_30 (fun (r_30 : i32 (G 8)) => ?_)
        refine M.to (pc := 33) (st2 := [vI (G 8), vR 1]) ?_ rfl rfl rfl
        refine M_iconst (pc := 33) C dX0_shorten_33 ?_
        refine M_iadd (pc := 34) C dX0_shorten_34 ?_
        refine M_wr (pc := 35) ?_
        refine A_putI (pc := 35) C fl_X0_36 rfl (by decide) (a := 1) rfl (tt_1 hT) (wr_i32 _) dX0_shorten_35 ?_
        refine M.to (pc := 38) (v2 := sa (sa (sa (sa (sa (sa (sa (sa (sa v 9 P) 8 W) 7 S) 6 B) 5 Z) 4 Rk) 3 O) 2 K) 1 (rs G 8 (wr ((G 8) + 1)))) ?_ rfl rfl (by rw [sa_up0])
        refine M_iconst (pc := 38) C dX0_shorten_38 ?_
        exact M_iret (pc := 39) C rfl dX0_shorten_39 rfl rfl
theorem c_X0_shorten_d4 {N : Nat} {T : Ty} {P W S B Z Rk O K G : Nat → Int} {f z n : Nat} {v : Ct} (hT : TT T) (hD : DI Z B S W) (hf : f < 10) (hz2 : Z f = (z : Int)) (hz3 : z ≤ 200) (hn : 1 ≤ n ∧ n ≤ 200) (hW : W f ≠ 1) (hle : n ≤ z) (hd : (z - n) / 16 = z / 16) (hm : (z - n) % 16 = 0) : Runs mX0_shorten 4 0 0 [vR 1, vI ((f : Nat) : Int), vI ((n : Nat) : Int)] N T (sa (sa (sa (sa (sa (sa (sa (sa (sa v 9 P) 8 W) 7 S) 6 B) 5 Z) 4 Rk) 3 O) 2 K) 1 G) (some (vI ((z - n : Nat) : Int))) N T (sa (sa (sa (sa (sa (sa (sa (sa (sa v 9 P) 8 W) 7 (rs S f (-1))) 6 (rs B f (-1))) 5 (rs Z f ((z - n : Nat) : Int))) 4 Rk) 3 O) 2 (dtK K Z B S f)) 1 G) := by
  have hz : Z f ≠ -1 := by omega
  refine Runs.of (by decide) (Nat.le_of_ble_eq_true rfl) fun κ C => ?_
  refine M_aload_n (pc := 0) C dX0_shorten_0 rfl (by decide) ?_
  refine M_iload_n (pc := 1) C dX0_shorten_1 rfl ?_
  refine A_cV (pc := 2) C (x := vI (Bi (decide (Z f ≠ -1)))) (a := 1) (c := 0) (c_X0_exists_n hT (f := f) (by omega)) yw_X0_exists lk_X0_46 rfl (congrArg Prod.fst (tt_1 hT)) hc_0 rfl dX0_shorten_2 rfl (Nat.le_of_ble_eq_true rfl) (by decide) ⟨Nat.le_refl _, Nat.le_refl _⟩ ?_
  refine M_rd (pc := 5) C 5 f (fun (r_2_0 : i32 (Z f)) => ?_)
  refine M_if_eq (pc := 5) C (tgt := 28) (Bi_i32 _) dX0_shorten_5 (by decide) (fun h_5 => ?_) (fun h_5 => ?_)
  · have b_5 := Bid_eq0 h_5
    exact absurd hz b_5
  · have b_5 := Bid_ne0 h_5
    refine M_aload_n (pc := 8) C dX0_shorten_8 rfl (by decide) ?_
    refine A_getR (pc := 9) C fl_X0_30 rfl (a := 1) (j := 8) rfl (tt_1 hT) (by decide) dX0_shorten_9 ?_
    refine M_iload_n (pc := 12) C dX0_shorten_12 rfl ?_
    refine A_iald (pc := 13) C (a := 8) (q := f) rfl (tt_8 hT) (by decide) rfl (by omega) dX0_shorten_13 (fun (r_13 : i32 (W f)) => ?_)
    refine M.to (pc := 14) (st2 := [vI (W f)]) ?_ rfl rfl rfl
    refine M_iconst (pc := 14) C dX0_shorten_14 ?_
    refine M_icmp_eq (pc := 15) C (tgt := 28) (by omega) (by omega) dX0_shorten_15 (by decide) (fun h_15 => ?_) (fun h_15 => ?_)
    · exfalso
      omega
    · refine M_aload_n (pc := 18) C dX0_shorten_18 rfl (by decide) ?_
      refine A_getR (pc := 19) C fl_X0_21 rfl (a := 1) (j := 5) rfl (tt_1 hT) (by decide) dX0_shorten_19 ?_
      refine M_iload_n (pc := 22) C dX0_shorten_22 rfl ?_
      refine A_iald (pc := 23) C (a := 5) (q := f) rfl (tt_5 hT) (by decide) rfl (by omega) dX0_shorten_23 (fun (r_23 : i32 (Z f)) => ?_)
      refine M.to (pc := 24) (st2 := [vI (Z f)]) ?_ rfl rfl rfl
      refine M_iload_n (pc := 24) C dX0_shorten_24 rfl ?_
      refine M_icmp_ge (pc := 25) C (tgt := 40) (by omega) (by omega) dX0_shorten_25 (by decide) (fun h_25 => ?_) (fun h_25 => ?_)
      · refine M_aload_n (pc := 40) C dX0_shorten_40 rfl (by decide) ?_
        refine A_getR (pc := 41) C fl_X0_21 rfl (a := 1) (j := 5) rfl (tt_1 hT) (by decide) dX0_shorten_41 ?_
        refine M_iload_n (pc := 44) C dX0_shorten_44 rfl ?_
        refine A_iald (pc := 45) C (a := 5) (q := f) rfl (tt_5 hT) (by decide) rfl (by omega) dX0_shorten_45 (fun (r_45 : i32 (Z f)) => ?_)
        refine M.to (pc := 46) (st2 := [vI (Z f)]) ?_ rfl rfl rfl
        refine M_iload_n (pc := 46) C dX0_shorten_46 rfl ?_
        refine M_isub (pc := 47) C dX0_shorten_47 ?_
        refine M.to (st2 := [vI ((z - n : Nat) : Int)]) ?_ rfl (by rw [show Z f - ((n : Nat) : Int) = ((z - n : Nat) : Int) by omega]) rfl
        refine M_istore_n (pc := 48) C dX0_shorten_48 (by decide) ?_
        refine M_iload_n (pc := 49) C dX0_shorten_49 rfl ?_
        refine M_bipush (pc := 50) C (by decide) dX0_shorten_50 ?_
        refine M_idiv (pc := 52) C (by omega) (by decide) dX0_shorten_52 ?_
        refine M_aload_n (pc := 53) C dX0_shorten_53 rfl (by decide) ?_
        refine A_getR (pc := 54) C fl_X0_21 rfl (a := 1) (j := 5) rfl (tt_1 hT) (by decide) dX0_shorten_54 ?_
        refine M_iload_n (pc := 57) C dX0_shorten_57 rfl ?_
        refine A_iald (pc := 58) C (a := 5) (q := f) rfl (tt_5 hT) (by decide) rfl (by omega) dX0_shorten_58 (fun (r_58 : i32 (Z f)) => ?_)
        refine M.to (pc := 59) (st2 := [vI (Z f), vI (((z - n : Nat) : Int) / 16)]) ?_ rfl rfl rfl
        refine M_bipush (pc := 59) C (by decide) dX0_shorten_59 ?_
        refine M_idiv (pc := 61) C (by omega) (by decide) dX0_shorten_61 ?_
        refine M_icmp_eq (pc := 62) C (tgt := 73) (by omega) (by omega) dX0_shorten_62 (by decide) (fun h_62 => ?_) (fun h_62 => ?_)
        · refine M_iload_n (pc := 73) C dX0_shorten_73 rfl ?_
          refine M_bipush (pc := 74) C (by decide) dX0_shorten_74 ?_
          refine M_irem (pc := 76) C (by omega) (by decide) dX0_shorten_76 ?_
          refine M_if_ne (pc := 77) C (tgt := 86) (by omega) dX0_shorten_77 (by decide) (fun h_77 => ?_) (fun h_77 => ?_)
          · exfalso
            omega
          · refine M_aload_n (pc := 80) C dX0_shorten_80 rfl (by decide) ?_
            refine M_iload_n (pc := 81) C dX0_shorten_81 rfl ?_
            refine A_cV (pc := 82) C (x := vI (dtV K Z B S f)) (a := 1) (c := 0) (c_X0_dropTail hT (v := v) (P := P) (W := W) (S := S) (B := B) (Z := Z) (Rk := Rk) (O := O) (K := K) (G := G) (f := f) hD (by omega) hz) yw_X0_dropTail lk_X0_118 rfl (congrArg Prod.fst (tt_1 hT)) hc_0 rfl dX0_shorten_82 rfl (Nat.le_of_ble_eq_true rfl) (by decide) ⟨Nat.le_refl _, Nat.le_refl _⟩ ?_
            have hdt_82 := dtV_bd K Z B S f
            refine M_pop (pc := 85) C rfl dX0_shorten_85 ?_
            refine M_aload_n (pc := 86) C dX0_shorten_86 rfl (by decide) ?_
            refine A_getR (pc := 87) C fl_X0_21 rfl (a := 1) (j := 5) rfl (tt_1 hT) (by decide) dX0_shorten_87 ?_
            refine M_iload_n (pc := 90) C dX0_shorten_90 rfl ?_
            refine M_iload_n (pc := 91) C dX0_shorten_91 rfl ?_
            refine A_iast (pc := 92) C (a := 5) (q := f) rfl (tt_5 hT) (by decide) rfl (by omega) (by omega) dX0_shorten_92 ?_
            refine M.to (pc := 93) (v2 := sa (sa (sa (sa (sa (sa (sa (sa (sa v 9 P) 8 W) 7 (rs S f (-1))) 6 (rs B f (-1))) 5 (rs Z f ((z - n : Nat) : Int))) 4 Rk) 3 O) 2 (dtK K Z B S f)) 1 G) ?_ rfl rfl (by rw [sa_up1 (by decide), sa_up1 (by decide), sa_up1 (by decide), sa_up1 (by decide), sa_up0])
            refine M_iload_n (pc := 93) C dX0_shorten_93 rfl ?_
            exact M_iret (pc := 94) C rfl dX0_shorten_94 rfl rfl
        · exfalso
          omega
      · exfalso
        omega
theorem c_X0_shorten_s4 {N : Nat} {T : Ty} {P W S B Z Rk O K G : Nat → Int} {f z n : Nat} {v : Ct} (hT : TT T) (hD : DI Z B S W) (hf : f < 10) (hz2 : Z f = (z : Int)) (hz3 : z ≤ 200) (hn : 1 ≤ n ∧ n ≤ 200) (hW : W f ≠ 1) (hle : n ≤ z) (hd : (z - n) / 16 = z / 16) (hm : (z - n) % 16 ≠ 0) : Runs mX0_shorten 4 0 0 [vR 1, vI ((f : Nat) : Int), vI ((n : Nat) : Int)] N T (sa (sa (sa (sa (sa (sa (sa (sa (sa v 9 P) 8 W) 7 S) 6 B) 5 Z) 4 Rk) 3 O) 2 K) 1 G) (some (vI ((z - n : Nat) : Int))) N T (sa (sa (sa (sa (sa (sa (sa (sa (sa v 9 P) 8 W) 7 S) 6 B) 5 (rs Z f ((z - n : Nat) : Int))) 4 Rk) 3 O) 2 K) 1 G) := by
  have hz : Z f ≠ -1 := by omega
  refine Runs.of (by decide) (Nat.le_of_ble_eq_true rfl) fun κ C => ?_
  refine M_aload_n (pc := 0) C dX0_shorten_0 rfl (by decide) ?_
  refine M_iload_n (pc := 1) C dX0_shorten_1 rfl ?_
  refine A_cV (pc := 2) C (x := vI (Bi (decide (Z f ≠ -1)))) (a := 1) (c := 0) (c_X0_exists_n hT (f := f) (by omega)) yw_X0_exists lk_X0_46 rfl (congrArg Prod.fst (tt_1 hT)) hc_0 rfl dX0_shorten_2 rfl (Nat.le_of_ble_eq_true rfl) (by decide) ⟨Nat.le_refl _, Nat.le_refl _⟩ ?_
  refine M_rd (pc := 5) C 5 f (fun (r_2_0 : i32 (Z f)) => ?_)
  refine M_if_eq (pc := 5) C (tgt := 28) (Bi_i32 _) dX0_shorten_5 (by decide) (fun h_5 => ?_) (fun h_5 => ?_)
  · have b_5 := Bid_eq0 h_5
    exact absurd hz b_5
  · have b_5 := Bid_ne0 h_5
    refine M_aload_n (pc := 8) C dX0_shorten_8 rfl (by decide) ?_
    refine A_getR (pc := 9) C fl_X0_30 rfl (a := 1) (j := 8) rfl (tt_1 hT) (by decide) dX0_shorten_9 ?_
    refine M_iload_n (pc := 12) C dX0_shorten_12 rfl ?_
    refine A_iald (pc := 13) C (a := 8) (q := f) rfl (tt_8 hT) (by decide) rfl (by omega) dX0_shorten_13 (fun (r_13 : i32 (W f)) => ?_)
    refine M.to (pc := 14) (st2 := [vI (W f)]) ?_ rfl rfl rfl
    refine M_iconst (pc := 14) C dX0_shorten_14 ?_
    refine M_icmp_eq (pc := 15) C (tgt := 28) (by omega) (by omega) dX0_shorten_15 (by decide) (fun h_15 => ?_) (fun h_15 => ?_)
    · exfalso
      omega
    · refine M_aload_n (pc := 18) C dX0_shorten_18 rfl (by decide) ?_
      refine A_getR (pc := 19) C fl_X0_21 rfl (a := 1) (j := 5) rfl (tt_1 hT) (by decide) dX0_shorten_19 ?_
      refine M_iload_n (pc := 22) C dX0_shorten_22 rfl ?_
      refine A_iald (pc := 23) C (a := 5) (q := f) rfl (tt_5 hT) (by decide) rfl (by omega) dX0_shorten_23 (fun (r_23 : i32 (Z f)) => ?_)
      refine M.to (pc := 24) (st2 := [vI (Z f)]) ?_ rfl rfl rfl
      refine M_iload_n (pc := 24) C dX0_shorten_24 rfl ?_
      refine M_icmp_ge (pc := 25) C (tgt := 40) (by omega) (by omega) dX0_shorten_25 (by decide) (fun h_25 => ?_) (fun h_25 => ?_)
      · refine M_aload_n (pc := 40) C dX0_shorten_40 rfl (by decide) ?_
        refine A_getR (pc := 41) C fl_X0_21 rfl (a := 1) (j := 5) rfl (tt_1 hT) (by decide) dX0_shorten_41 ?_
        refine M_iload_n (pc := 44) C dX0_shorten_44 rfl ?_
        refine A_iald (pc := 45) C (a := 5) (q := f) rfl (tt_5 hT) (by decide) rfl (by omega) dX0_shorten_45 (fun (r_45 : i32 (Z f)) => ?_)
        refine M.to (pc := 46) (st2 := [vI (Z f)]) ?_ rfl rfl rfl
        refine M_iload_n (pc := 46) C dX0_shorten_46 rfl ?_
        refine M_isub (pc := 47) C dX0_shorten_47 ?_
        refine M.to (st2 := [vI ((z - n : Nat) : Int)]) ?_ rfl (by rw [show Z f - ((n : Nat) : Int) = ((z - n : Nat) : Int) by omega]) rfl
        refine M_istore_n (pc := 48) C dX0_shorten_48 (by decide) ?_
        refine M_iload_n (pc := 49) C dX0_shorten_49 rfl ?_
        refine M_bipush (pc := 50) C (by decide) dX0_shorten_50 ?_
        refine M_idiv (pc := 52) C (by omega) (by decide) dX0_shorten_52 ?_
        refine M_aload_n (pc := 53) C dX0_shorten_53 rfl (by decide) ?_
        refine A_getR (pc := 54) C fl_X0_21 rfl (a := 1) (j := 5) rfl (tt_1 hT) (by decide) dX0_shorten_54 ?_
        refine M_iload_n (pc := 57) C dX0_shorten_57 rfl ?_
        refine A_iald (pc := 58) C (a := 5) (q := f) rfl (tt_5 hT) (by decide) rfl (by omega) dX0_shorten_58 (fun (r_58 : i32 (Z f)) => ?_)
        refine M.to (pc := 59) (st2 := [vI (Z f), vI (((z - n : Nat) : Int) / 16)]) ?_ rfl rfl rfl
        refine M_bipush (pc := 59) C (by decide) dX0_shorten_59 ?_
        refine M_idiv (pc := 61) C (by omega) (by decide) dX0_shorten_61 ?_
        refine M_icmp_eq (pc := 62) C (tgt := 73) (by omega) (by omega) dX0_shorten_62 (by decide) (fun h_62 => ?_) (fun h_62 => ?_)
        · refine M_iload_n (pc := 73) C dX0_shorten_73 rfl ?_
          refine M_bipush (pc := 74) C (by decide) dX0_shorten_74 ?_
          refine M_irem (pc := 76) C (by omega) (by decide) dX0_shorten_76 ?_
          refine M_if_ne (pc := 77) C (tgt := 86) (by omega) dX0_shorten_77 (by decide) (fun h_77 => ?_) (fun h_77 => ?_)
          · refine M_aload_n (pc := 86) C dX0_shorten_86 rfl (by decide) ?_
            refine A_getR (pc := 87) C fl_X0_21 rfl (a := 1) (j := 5) rfl (tt_1 hT) (by decide) dX0_shorten_87 ?_
            refine M_iload_n (pc := 90) C dX0_shorten_90 rfl ?_
            refine M_iload_n (pc := 91) C dX0_shorten_91 rfl ?_
            refine A_iast (pc := 92) C (a := 5) (q := f) rfl (tt_5 hT) (by decide) rfl (by omega) (by omega) dX0_shorten_92 ?_
            refine M.to (pc := 93) (v2 := sa (sa (sa (sa (sa (sa (sa (sa (sa v 9 P) 8 W) 7 S) 6 B) 5 (rs Z f ((z - n : Nat) : Int))) 4 Rk) 3 O) 2 K) 1 G) ?_ rfl rfl (by rw [sa_up1 (by decide), sa_up1 (by decide), sa_up1 (by decide), sa_up1 (by decide), sa_up0])
            refine M_iload_n (pc := 93) C dX0_shorten_93 rfl ?_
            exact M_iret (pc := 94) C rfl dX0_shorten_94 rfl rfl
          · exfalso
            omega
        · exfalso
          omega
      · exfalso
        omega
section DSK
variable {N : Nat} {T : Ty} {v : Ct} {r : Nat → Int} {c : Int}
theorem c_X0_shortenR {f n : Nat} (hT : TT T) (hD : DV v 1 r c) (hc : c < 1000000) (hf : f < 10) (hfi : ro r f 0 = 1) (hn : 1 ≤ n ∧ n ≤ 200) : RunsP mX0_shorten 4 0 0 [vR 1, vI ((f : Nat) : Int), vI ((n : Nat) : Int)] N T v N T (fun r1 v1 => r1 = some (vI (opV (cuO r f n))) ∧ DV v1 1 (opR r (cuO r f n)) (c + 1) ∧ oth v v1) := by
  obtain ⟨H, C⟩ := hD
  have H : DR (v 2) (v 3) (v 4) (v 5) (v 6) (v 7) (v 8) (v 9) r := H
  have C : CNT (v 1) (v 9) r c := C
  have hz : v 5 f ≠ -1 := by
    rcases (H.1 f hf).ex with ⟨-, q⟩ | ⟨q, -⟩
    · omega
    · exact q
  have hw := H.wf hf hz
  obtain ⟨z, hz2⟩ : ∃ z : Nat, v 5 f = (z : Int) := ⟨(v 5 f).toNat, by omega⟩
  obtain ⟨h1, h2, h3, h4⟩ := H.cut hf hz2 hn.1
  by_cases hg : v 8 f = 1 ∨ z < n
  · have h := c_X0_shorten_m4 (N := N) (v := v) (P := v 9) (W := v 8) (S := v 7) (B := v 6) (Z := v 5) (Rk := v 4) (O := v 3) (K := v 2) (G := v 1) hT H.DI hf hz2 (by omega) hn hg
    rw [sa9] at h
    refine RunsP.imp h ?_
    rintro r1 v1 ⟨rfl, rfl⟩
    rw [h1 hg, opV_n, opR_n]
    exact ⟨rfl, ⟨H.rf, C.rf hc⟩, oth9 _ _ _ _ _ _ _ _ _ _⟩
  · by_cases hd : (z - n) / 16 = z / 16
    · by_cases hm : (z - n) % 16 = 0
      · obtain ⟨r3, k1, k2, k3⟩ := h3 (by omega) (by omega) hd hm
        have h := c_X0_shorten_d4 (N := N) (v := v) (P := v 9) (W := v 8) (S := v 7) (B := v 6) (Z := v 5) (Rk := v 4) (O := v 3) (K := v 2) (G := v 1) hT H.DI hf hz2 (by omega) hn (by omega) (by omega) hd hm
        rw [sa9] at h
        refine RunsP.imp h ?_
        rintro r1 v1 ⟨rfl, rfl⟩
        rw [k1, opV_s, opR_s]
        exact ⟨rfl, ⟨k2, C.up1 hc k3 (fun g _ => Or.inl rfl)⟩, oth9 _ _ _ _ _ _ _ _ _ _⟩
      · obtain ⟨r3, k1, k2, k3⟩ := h4 (by omega) (by omega) hd hm
        have h := c_X0_shorten_s4 (N := N) (v := v) (P := v 9) (W := v 8) (S := v 7) (B := v 6) (Z := v 5) (Rk := v 4) (O := v 3) (K := v 2) (G := v 1) hT H.DI hf hz2 (by omega) hn (by omega) (by omega) hd hm
        rw [sa9] at h
        refine RunsP.imp h ?_
        rintro r1 v1 ⟨rfl, rfl⟩
        rw [k1, opV_s, opR_s]
        exact ⟨rfl, ⟨k2, C.up1 hc k3 (fun g _ => Or.inl rfl)⟩, oth9 _ _ _ _ _ _ _ _ _ _⟩
    · obtain ⟨r3, k1, k2, k3⟩ := h2 (by omega) (by omega) hd
      have h := c_X0_shorten_r (N := N) (v := v) (P := v 9) (W := v 8) (S := v 7) (B := v 6) (Z := v 5) (Rk := v 4) (O := v 3) (K := v 2) (G := v 1) hT H.DI hf hz2 (by omega) hn (by omega) (by omega) hd
      rw [sa9, C.2.2.1] at h
      refine RunsP.imp h ?_
      rintro r1 v1 ⟨rfl, rfl⟩
      rw [k1, opV_s, opR_s]
      exact ⟨rfl, ⟨k2, C.up1 hc k3 (fun g _ => rbQ_or g)⟩, oth9 _ _ _ _ _ _ _ _ _ _⟩
theorem c_X0_removeFileR {f : Nat} (hT : TT T) (hD : DV v 1 r c) (hc : c < 1000000) (hf : f < 10) (hfi : ro r f 0 = 1) : RunsP mX0_removeFile 3 0 0 [vR 1, vI ((f : Nat) : Int)] N T v N T (fun r1 v1 => r1 = some (vI (dlV r f)) ∧ DV v1 1 (dlR r f) (c + 1) ∧ oth v v1) := by
  obtain ⟨H, C⟩ := hD
  have H : DR (v 2) (v 3) (v 4) (v 5) (v 6) (v 7) (v 8) (v 9) r := H
  have C : CNT (v 1) (v 9) r c := C
  have hz : v 5 f ≠ -1 := by
    rcases (H.1 f hf).ex with ⟨-, q⟩ | ⟨q, -⟩
    · omega
    · exact q
  obtain ⟨k1, k2, k3⟩ := H.del hf hz
  have h := c_X0_removeFile (N := N) (v := v) (P := v 9) (W := v 8) (S := v 7) (B := v 6) (Z := v 5) (Rk := v 4) (O := v 3) (K := v 2) (G := v 1) hT H.DI hf hz
  rw [sa9] at h
  refine RunsP.imp h ?_
  rintro r1 v1 ⟨rfl, rfl⟩
  refine ⟨by rw [k2], ⟨k1, C.up1 hc k3 (fun g _ => ?_)⟩, oth9 _ _ _ _ _ _ _ _ _ _⟩
  by_cases e : g = f
  · subst e; exact Or.inr (Or.inr (rs_eq _ _ _))
  · exact Or.inl (rs_ne e _)
theorem c_X0_turnBadR {b : Nat} (hT : TT T) (hD : DV v 1 r c) (hb : b < 24) : RunsP mX0_turnBad 2 0 0 [vR 1, vI ((b : Nat) : Int)] N T v N T (fun r1 v1 => r1 = some (vI (spV r (b : Int) 10)) ∧ DV v1 1 (rs (spN r (b : Int) 10) (3 + b) 3) c ∧ oth v v1) := by
  obtain ⟨H, C⟩ := hD
  have H : DR (v 2) (v 3) (v 4) (v 5) (v 6) (v 7) (v 8) (v 9) r := H
  have C : CNT (v 1) (v 9) r c := C
  obtain ⟨k1, k2, k3, k4⟩ := H.spl hb 10 (Nat.le_refl _)
  have k5 := k1.bad hb k4
  have h := c_X0_turnBad (N := N) (v := v) (P := v 9) (W := v 8) (S := v 7) (B := v 6) (Z := v 5) (Rk := v 4) (O := v 3) (K := v 2) (G := v 1) hT hb
  rw [sa9] at h
  refine RunsP.imp h ?_
  rintro r1 v1 ⟨rfl, rfl⟩
  obtain ⟨c1, c2, c3, c4, c5, c6, c7⟩ := C
  have e0 : rs (spN r (b : Int) 10) (3 + b) 3 0 = r 0 := by rw [rs_ne (by omega)]; exact k3 0 (by decide)
  have e1 : rs (spN r (b : Int) 10) (3 + b) 3 1 = r 1 := by rw [rs_ne (by omega)]; exact k3 1 (by decide)
  have e2 : rs (spN r (b : Int) 10) (3 + b) 3 2 = r 2 := by rw [rs_ne (by omega)]; exact k3 2 (by decide)
  exact ⟨by rw [k2], ⟨k5, by rw [e0]; exact c1, by rw [e1]; exact c2, by rw [e2]; exact c3, by rw [e2]; exact c4, by rw [e0]; exact c5, by rw [e1]; exact c6, c7⟩, oth9 _ _ _ _ _ _ _ _ _ _⟩
end DSK
