theorem c_X0_rebuild {N : Nat} {T : Ty} {P W S B Z Rk O K G : Nat → Int} {f z s : Nat} {v : Ct} (hT : TT T) (hD : DI Z B S W) (hf : f < 10) (hz2 : Z f = (z : Int)) (hz3 : z ≤ 200) (hs : s ≤ 200) : Runs mX0_rebuild 3 0 0 [vR 1, vI ((f : Nat) : Int), vI ((s : Nat) : Int)] N T (sa (sa (sa (sa (sa (sa (sa (sa (sa v 9 P) 8 W) 7 S) 6 B) 5 Z) 4 Rk) 3 O) 2 K) 1 G) none N T (sa (sa (sa (sa (sa (sa (sa (sa (sa v 9 (rbQ f K Z B S O Rk P (G 10) z s)) 8 W) 7 (rbS f K Z B S O Rk (G 10) z s)) 6 (rbB f K Z B S O Rk (G 10) z s)) 5 (rs Z f ((s : Nat) : Int))) 4 ((rbD f K Z B S O Rk z s).2.2.1)) 3 ((rbD f K Z B S O Rk z s).2.1)) 2 (rbK f K Z B S O Rk (G 10) z s)) 1 G) := by
  have hz : Z f ≠ -1 := by omega
  refine Runs.of (by decide) (Nat.le_of_ble_eq_true rfl) fun κ C => ?_
  refine M_aload_n (pc := 0) C dX0_rebuild_0 rfl (by decide) ?_
  refine M_iload_n (pc := 1) C dX0_rebuild_1 rfl ?_
  refine A_cV (pc := 2) C (x := vI (Bi (decide (Z f ≠ -1)))) (a := 1) (c := 0) (c_X0_exists_n hT (f := f) (by omega)) yw_X0_exists lk_X0_46 rfl (congrArg Prod.fst (tt_1 hT)) hc_0 rfl dX0_rebuild_2 rfl (Nat.le_of_ble_eq_true rfl) (by decide) ⟨Nat.le_refl _, Nat.le_refl _⟩ ?_
  refine M_rd (pc := 5) C 5 f (fun (r_2_0 : i32 (Z f)) => ?_)
  refine M_if_ne (pc := 5) C (tgt := 9) (Bi_i32 _) dX0_rebuild_5 (by decide) (fun h_5 => ?_) (fun h_5 => ?_)
  · have b_5 := Bid_ne0 h_5
    refine M_aload_n (pc := 9) C dX0_rebuild_9 rfl (by decide) ?_
    refine M_iload_n (pc := 10) C dX0_rebuild_10 rfl ?_
    refine A_cV (pc := 11) C (x := vI (dtV K Z B S f)) (a := 1) (c := 0) (c_X0_dropTail hT (v := v) (P := P) (W := W) (S := S) (B := B) (Z := Z) (Rk := Rk) (O := O) (K := K) (G := G) (f := f) hD (by omega) hz) yw_X0_dropTail lk_X0_118 rfl (congrArg Prod.fst (tt_1 hT)) hc_0 rfl dX0_rebuild_11 rfl (Nat.le_of_ble_eq_true rfl) (by decide) ⟨Nat.le_refl _, Nat.le_refl _⟩ ?_
    have hdt_11 := dtV_bd K Z B S f
    refine M_pop (pc := 14) C rfl dX0_rebuild_14 ?_
    refine M_aload_n (pc := 15) C dX0_rebuild_15 rfl (by decide) ?_
    refine A_getR (pc := 16) C fl_X0_21 rfl (a := 1) (j := 5) rfl (tt_1 hT) (by decide) dX0_rebuild_16 ?_
    refine M_iload_n (pc := 19) C dX0_rebuild_19 rfl ?_
    refine A_iald (pc := 20) C (a := 5) (q := f) rfl (tt_5 hT) (by decide) rfl (by omega) dX0_rebuild_20 (fun (r_20 : i32 (Z f)) => ?_)
    refine M.to (pc := 21) (st2 := [vI (Z f)]) ?_ rfl rfl rfl
    refine M.to (st2 := [vI ((z : Nat) : Int)]) ?_ rfl (by rw [hz2]) rfl
    refine M_bipush (pc := 21) C (by decide) dX0_rebuild_21 ?_
    refine M_idiv (pc := 23) C (by omega) (by decide) dX0_rebuild_23 ?_
    refine M_istore_n (pc := 24) C dX0_rebuild_24 (by decide) ?_
    refine loop_le (P := fun i => M κ N T 25 [some (vR 1), some (vI ((f : Nat) : Int)), some (vI ((s : Nat) : Int)), some (vI ((z / 16 + i : Nat) : Int))] [] (sa (sa (sa (sa (sa (sa (sa (sa (sa v 9 P) 8 W) 7 (rs S f (-1))) 6 (rs B f (-1))) 5 Z) 4 ((tw3 ((f : Nat) : Int) (dtK K Z B S f) O Rk (z / 16) i).2.2)) 3 ((tw3 ((f : Nat) : Int) (dtK K Z B S f) O Rk (z / 16) i).2.1)) 2 ((tw3 ((f : Nat) : Int) (dtK K Z B S f) O Rk (z / 16) i).1)) 1 G) 0 0 (QR κ none N T (sa (sa (sa (sa (sa (sa (sa (sa (sa v 9 (rbQ f K Z B S O Rk P (G 10) z s)) 8 W) 7 (rbS f K Z B S O Rk (G 10) z s)) 6 (rbB f K Z B S O Rk (G 10) z s)) 5 (rs Z f ((s : Nat) : Int))) 4 ((rbD f K Z B S O Rk z s).2.2.1)) 3 ((rbD f K Z B S O Rk z s).2.1)) 2 (rbK f K Z B S O Rk (G 10) z s)) 1 G) 0 0)) (s / 16 - z / 16) (fun i hi ih => ?_)
    refine M_iload_n (pc := 25) C dX0_rebuild_25 rfl ?_
    refine M_iload_n (pc := 26) C dX0_rebuild_26 rfl ?_
    refine M_bipush (pc := 27) C (by decide) dX0_rebuild_27 ?_
    refine M_idiv (pc := 29) C (by omega) (by decide) dX0_rebuild_29 ?_
    refine M_icmp_ge (pc := 30) C (tgt := 45) (by omega) (by omega) dX0_rebuild_30 (by decide) (fun h_30 => ?_) (fun h_30 => ?_)
    · have hie : i = s / 16 - z / 16 := by omega
      refine M.to (v2 := sa (sa (sa (sa (sa (sa (sa (sa (sa v 9 P) 8 W) 7 (rs S f (-1))) 6 (rs B f (-1))) 5 Z) 4 ((rbT f K Z B S O Rk z s).2.2)) 3 ((rbT f K Z B S O Rk z s).2.1)) 2 ((rbT f K Z B S O Rk z s).1)) 1 G) ?_ rfl rfl (by rw [hie]; rfl)
      refine M_aload_n (pc := 45) C dX0_rebuild_45 rfl (by decide) ?_
      refine M_iload_n (pc := 46) C dX0_rebuild_46 rfl ?_
      refine M_iload_n (pc := 47) C dX0_rebuild_47 rfl ?_
      refine M_bipush (pc := 48) C (by decide) dX0_rebuild_48 ?_
      refine M_idiv (pc := 50) C (by omega) (by decide) dX0_rebuild_50 ?_
      refine A_cV (pc := 51) C (x := vI (((dwS2 ((f : Nat) : Int) (((s : Nat) : Int) / 16) ((rbT f K Z B S O Rk z s).1) ((rbT f K Z B S O Rk z s).2.1) ((rbT f K Z B S O Rk z s).2.2) 24).2.2.2 : Nat) : Int)) (a := 1) (c := 0) (c_X0_dropWholes hT (v := v) (P := P) (W := W) (S := rs S f (-1)) (B := rs B f (-1)) (Z := Z) (Rk := (rbT f K Z B S O Rk z s).2.2) (O := (rbT f K Z B S O Rk z s).2.1) (K := (rbT f K Z B S O Rk z s).1) (G := G) (f := f) (lf := ((s : Nat) : Int) / 16) (by omega) (by omega)) yw_X0_dropWholes lk_X0_121 rfl (congrArg Prod.fst (tt_1 hT)) hc_0 rfl dX0_rebuild_51 rfl (Nat.le_of_ble_eq_true rfl) (by decide) ⟨Nat.le_refl _, Nat.le_refl _⟩ ?_
      have hdw_51 := dwS2_bd ((f : Nat) : Int) (((s : Nat) : Int) / 16) ((rbT f K Z B S O Rk z s).1) ((rbT f K Z B S O Rk z s).2.1) ((rbT f K Z B S O Rk z s).2.2) 24
      refine M.to (v2 := sa (sa (sa (sa (sa (sa (sa (sa (sa v 9 P) 8 W) 7 (rs S f (-1))) 6 (rs B f (-1))) 5 Z) 4 ((rbD f K Z B S O Rk z s).2.2.1)) 3 ((rbD f K Z B S O Rk z s).2.1)) 2 ((rbD f K Z B S O Rk z s).1)) 1 G) ?_ rfl rfl rfl
      refine M_pop (pc := 54) C rfl dX0_rebuild_54 ?_
      refine M_aload_n (pc := 55) C dX0_rebuild_55 rfl (by decide) ?_
      refine A_getR (pc := 56) C fl_X0_21 rfl (a := 1) (j := 5) rfl (tt_1 hT) (by decide) dX0_rebuild_56 ?_
      refine M_iload_n (pc := 59) C dX0_rebuild_59 rfl ?_
      refine M_iload_n (pc := 60) C dX0_rebuild_60 rfl ?_
      refine A_iast (pc := 61) C (a := 5) (q := f) rfl (tt_5 hT) (by decide) rfl (by omega) (by omega) dX0_rebuild_61 ?_
      refine M.to (pc := 62) (v2 := sa (sa (sa (sa (sa (sa (sa (sa (sa v 9 P) 8 W) 7 (rs S f (-1))) 6 (rs B f (-1))) 5 (rs Z f ((s : Nat) : Int))) 4 ((rbD f K Z B S O Rk z s).2.2.1)) 3 ((rbD f K Z B S O Rk z s).2.1)) 2 ((rbD f K Z B S O Rk z s).1)) 1 G) ?_ rfl rfl (by rw [sa_up1 (by decide), sa_up1 (by decide), sa_up1 (by decide), sa_up1 (by decide), sa_up0])
      have hD2 : DI (rs Z f ((s : Nat) : Int)) (rs B f (-1)) (rs S f (-1)) W := DI_size (DI_drop hD f) (by omega) (Or.inl (rs_eq _ _ _))
      refine M_iload_n (pc := 62) C dX0_rebuild_62 rfl ?_
      refine M_bipush (pc := 63) C (by decide) dX0_rebuild_63 ?_
      refine M_irem (pc := 65) C (by omega) (by decide) dX0_rebuild_65 ?_
      refine M_if_ne (pc := 66) C (tgt := 73) (by omega) dX0_rebuild_66 (by decide) (fun h_66 => ?_) (fun h_66 => ?_)
      · have eQ : rbP f K Z B S O Rk (G 10) z s = plN (rbD f K Z B S O Rk z s).1 (rs Z f ((s : Nat) : Int)) (rs B f (-1)) (rs S f (-1)) (G 10) ((s % 16 : Nat) : Int) := if_neg (by omega)
        refine M_aload_n (pc := 73) C dX0_rebuild_73 rfl (by decide) ?_
        refine M_iload_n (pc := 74) C dX0_rebuild_74 rfl ?_
        refine M_bipush (pc := 75) C (by decide) dX0_rebuild_75 ?_
        refine M_irem (pc := 77) C (by omega) (by decide) dX0_rebuild_77 ?_
        refine A_cV (pc := 78) C (x := vI (plN (rbD f K Z B S O Rk z s).1 (rs Z f ((s : Nat) : Int)) (rs B f (-1)) (rs S f (-1)) (G 10) ((s % 16 : Nat) : Int))) (a := 1) (c := 0) (c_X0_placeFor hT (v := sa (sa (sa (sa (sa (sa (sa (sa (sa v 9 P) 8 W) 7 (rs S f (-1))) 6 (rs B f (-1))) 5 (rs Z f ((s : Nat) : Int))) 4 ((rbD f K Z B S O Rk z s).2.2.1)) 3 ((rbD f K Z B S O Rk z s).2.1)) 2 ((rbD f K Z B S O Rk z s).1)) 1 G) hD2 (x := ((s % 16 : Nat) : Int)) (by omega)) yw_X0_placeFor lk_X0_127 rfl (congrArg Prod.fst (tt_1 hT)) hc_0 rfl dX0_rebuild_78 rfl (Nat.le_of_ble_eq_true rfl) (by decide) ⟨Nat.le_refl _, Nat.le_refl _⟩ ?_
        have hpl := plN_bd (rbD f K Z B S O Rk z s).1 (rs Z f ((s : Nat) : Int)) (rs B f (-1)) (rs S f (-1)) (G 10) ((s % 16 : Nat) : Int)
        refine M_istore_n (pc := 81) C dX0_rebuild_81 (by decide) ?_
        refine M_iload_n (pc := 82) C dX0_rebuild_82 rfl ?_
        refine M_iconst (pc := 83) C dX0_rebuild_83 ?_
        refine M_icmp_eq (pc := 84) C (tgt := 100) (by omega) (by omega) dX0_rebuild_84 (by decide) (fun h_84 => ?_) (fun h_84 => ?_)
        · have eP : rbP f K Z B S O Rk (G 10) z s = -1 := by rw [eQ]; exact h_84
          obtain ⟨g1, g2, g3, g4⟩ := rb_no (P := P) eP
          exact M_vret (pc := 100) C rfl dX0_rebuild_100 (by rw [g1, g2, g3, g4]) rfl
        · obtain ⟨q, hq⟩ : ∃ q : Nat, plN (rbD f K Z B S O Rk z s).1 (rs Z f ((s : Nat) : Int)) (rs B f (-1)) (rs S f (-1)) (G 10) ((s % 16 : Nat) : Int) = (q : Int) := ⟨(plN (rbD f K Z B S O Rk z s).1 (rs Z f ((s : Nat) : Int)) (rs B f (-1)) (rs S f (-1)) (G 10) ((s % 16 : Nat) : Int)).toNat, by omega⟩
          have eP : rbP f K Z B S O Rk (G 10) z s = (q : Int) := by rw [eQ]; exact hq
          obtain ⟨g1, g2, g3, g4⟩ := rb_yes (P := P) eP
          have hz4 : rs Z f ((s : Nat) : Int) f ≠ -1 := by rw [rs_eq]; omega
          refine M.to (L2 := [some (vR 1), some (vI ((f : Nat) : Int)), some (vI ((s : Nat) : Int)), some (vI ((q : Nat) : Int))]) ?_ (by rw [← hq]; rfl) rfl rfl
          refine M_aload_n (pc := 87) C dX0_rebuild_87 rfl (by decide) ?_
          refine M_iload_n (pc := 88) C dX0_rebuild_88 rfl ?_
          refine M_iload_n (pc := 89) C dX0_rebuild_89 rfl ?_
          refine M_bipush (pc := 90) C (by decide) dX0_rebuild_90 ?_
          refine M_idiv (pc := 92) C (by omega) (by decide) dX0_rebuild_92 ?_
          refine M_iload_n (pc := 93) C dX0_rebuild_93 rfl ?_
          refine M_bipush (pc := 94) C (by decide) dX0_rebuild_94 ?_
          refine M_irem (pc := 96) C (by omega) (by decide) dX0_rebuild_96 ?_
          refine A_cVv (pc := 97) C (a := 1) (c := 0) (c_X0_putTail hT (v := v) (P := P) (W := W) (S := rs S f (-1)) (B := rs B f (-1)) (Z := rs Z f ((s : Nat) : Int)) (Rk := (rbD f K Z B S O Rk z s).2.2.1) (O := (rbD f K Z B S O Rk z s).2.1) (K := (rbD f K Z B S O Rk z s).1) (G := G) (f := f) (b := q / 16) (s := q % 16) (by omega) hz4 (by omega) (by omega)) yw_X0_putTail lk_X0_130 rfl (congrArg Prod.fst (tt_1 hT)) hc_0 rfl dX0_rebuild_97 rfl (Nat.le_of_ble_eq_true rfl) (by decide) ⟨Nat.le_refl _, Nat.le_refl _⟩ ?_
          exact M_vret (pc := 100) C rfl dX0_rebuild_100 (by rw [g1, g2, g3, g4]) rfl
      · have eP : rbP f K Z B S O Rk (G 10) z s = -1 := if_pos (by omega)
        obtain ⟨g1, g2, g3, g4⟩ := rb_no (P := P) eP
        refine M_iconst (pc := 69) C dX0_rebuild_69 ?_
        refine M_goto (pc := 70) C (tgt := 81) dX0_rebuild_70 (by decide) ?_
        refine M_istore_n (pc := 81) C dX0_rebuild_81 (by decide) ?_
        refine M_iload_n (pc := 82) C dX0_rebuild_82 rfl ?_
        refine M_iconst (pc := 83) C dX0_rebuild_83 ?_
        refine M_icmp_eq (pc := 84) C (tgt := 100) (by decide) (by decide) dX0_rebuild_84 (by decide) (fun _ => ?_) (fun h => absurd h (by decide))
        exact M_vret (pc := 100) C rfl dX0_rebuild_100 (by rw [g1, g2, g3, g4]) rfl
    · refine M_aload_n (pc := 33) C dX0_rebuild_33 rfl (by decide) ?_
      refine M_iload_n (pc := 34) C dX0_rebuild_34 rfl ?_
      refine M_iload_n (pc := 35) C dX0_rebuild_35 rfl ?_
      refine A_cVv (pc := 36) C (a := 1) (c := 0) (c_X0_takeWhole hT (v := v) (P := P) (W := W) (S := rs S f (-1)) (B := rs B f (-1)) (Z := Z) (Rk := (tw3 ((f : Nat) : Int) (dtK K Z B S f) O Rk (z / 16) i).2.2) (O := (tw3 ((f : Nat) : Int) (dtK K Z B S f) O Rk (z / 16) i).2.1) (K := (tw3 ((f : Nat) : Int) (dtK K Z B S f) O Rk (z / 16) i).1) (G := G) (f := f) (k := z / 16 + i) (by omega) (by omega)) yw_X0_takeWhole lk_X0_124 rfl (congrArg Prod.fst (tt_1 hT)) hc_0 rfl dX0_rebuild_36 rfl (Nat.le_of_ble_eq_true rfl) (by decide) ⟨Nat.le_refl _, Nat.le_refl _⟩ ?_
      refine M_iinc (pc := 39) C dX0_rebuild_39 rfl (by decide) ?_
      refine M_goto (pc := 42) C (tgt := 25) dX0_rebuild_42 (by decide) ?_
      exact M.to (ih (by omega)) rfl rfl rfl
  · have b_5 := Bid_eq0 h_5
    exact absurd hz b_5
