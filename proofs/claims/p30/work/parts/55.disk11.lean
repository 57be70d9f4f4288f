theorem c_X4_plan {N : Nat} {T : Ty} {NB NS F E Lg X : Nat → Int} {v : Ct} (hT : TT T) (hD : DI (v 5) (v 6) (v 7) (v 8)) (hL : ∀ q, q < (clI (v 5) (v 8) E Lg 10).2.2 → 0 ≤ ((clI (v 5) (v 8) E Lg 10).2.1) q ∧ ((clI (v 5) (v 8) E Lg 10).2.1) q < 16) : RunsP mX4_plan 4 0 0 [vR 70, vR 1] N T (sa (sa (sa (sa (sa (sa v 74 NB) 75 NS) 76 F) 72 E) 73 Lg) 71 X) N T (fun r1 v1 => ∃ NB2 NS2 F2, v1 = sa (sa (sa (sa (sa (sa v 74 NB2) 75 NS2) 76 F2) 72 ((clI (v 5) (v 8) E Lg 10).1)) 73 ((clI (v 5) (v 8) E Lg 10).2.1)) 71 (rs X 2 (((clI (v 5) (v 8) E Lg 10).2.2 : Nat) : Int)) ∧ ((orB (pnN ((clI (v 5) (v 8) E Lg 10).2.1) NB NS (flN (v 2) (v 6) (v 8) F 24)) ((clI (v 5) (v 8) E Lg 10).2.2) = true ∧ r1 = some (vI (-1))) ∨ (orB (pnN ((clI (v 5) (v 8) E Lg 10).2.1) NB NS (flN (v 2) (v 6) (v 8) F 24)) ((clI (v 5) (v 8) E Lg 10).2.2) = false ∧ r1 = some (vI (emN F2)) ∧ (NB2, NS2, F2) = pnS ((clI (v 5) (v 8) E Lg 10).2.1) NB NS (flN (v 2) (v 6) (v 8) F 24) ((clI (v 5) (v 8) E Lg 10).2.2)))) := by
  have hn10 := clI_bd (v 5) (v 8) E Lg 10
  have hF0 : ∀ b, b < 24 → 0 ≤ (flN (v 2) (v 6) (v 8) F 24) b ∧ (flN (v 2) (v 6) (v 8) F 24) b ≤ 16 := fun b hb => by rw [flN_at _ _ _ _ 24 b hb]; split <;> decide
  have hF := fun a ha hj => pnS_bd (NB := NB) (NS := NS) hL hF0 a ha hj
  refine RunsP.of (by decide) (Nat.le_of_ble_eq_true rfl) fun κ C => ?_
  refine M_aload_n (pc := 0) C dX4_plan_0 rfl (by decide) ?_
  refine A_getR (pc := 1) C fl_X4_12 rfl (a := 70) (j := 71) rfl (tt_70 hT) rfl dX4_plan_1 ?_
  refine M_aload_n (pc := 4) C dX4_plan_4 rfl (by decide) ?_
  refine A_cVv (pc := 5) C (a := 71) (c := 5) (c_X5_collect_71 hT (v := sa (sa (sa v 74 NB) 75 NS) 76 F) (E := E) (Lg := Lg) (X := X) hD) yw_X5_collect lk_X4_28 rfl (congrArg Prod.fst (tt_71 hT)) hc_5 rfl dX4_plan_5 rfl (Nat.le_of_ble_eq_true rfl) (by decide) ⟨Nat.le_refl _, Nat.le_refl _⟩ ?_
  refine M_iconst (pc := 8) C dX4_plan_8 ?_
  refine M_istore_n (pc := 9) C dX4_plan_9 (by decide) ?_
  refine loop_le (P := fun i => M κ N T 10 [some (vR 70), some (vR 1), some (vI ((i : Nat) : Int)), none] [] (sa (sa (sa (sa (sa (sa v 74 NB) 75 NS) 76 (flN (v 2) (v 6) (v 8) F i)) 72 ((clI (v 5) (v 8) E Lg 10).1)) 73 ((clI (v 5) (v 8) E Lg 10).2.1)) 71 (rs X 2 (((clI (v 5) (v 8) E Lg 10).2.2 : Nat) : Int))) 0 0 (QP κ N T (fun r1 v1 => ∃ NB2 NS2 F2, v1 = sa (sa (sa (sa (sa (sa v 74 NB2) 75 NS2) 76 F2) 72 ((clI (v 5) (v 8) E Lg 10).1)) 73 ((clI (v 5) (v 8) E Lg 10).2.1)) 71 (rs X 2 (((clI (v 5) (v 8) E Lg 10).2.2 : Nat) : Int)) ∧ ((orB (pnN ((clI (v 5) (v 8) E Lg 10).2.1) NB NS (flN (v 2) (v 6) (v 8) F 24)) ((clI (v 5) (v 8) E Lg 10).2.2) = true ∧ r1 = some (vI (-1))) ∨ (orB (pnN ((clI (v 5) (v 8) E Lg 10).2.1) NB NS (flN (v 2) (v 6) (v 8) F 24)) ((clI (v 5) (v 8) E Lg 10).2.2) = false ∧ r1 = some (vI (emN F2)) ∧ (NB2, NS2, F2) = pnS ((clI (v 5) (v 8) E Lg 10).2.1) NB NS (flN (v 2) (v 6) (v 8) F 24) ((clI (v 5) (v 8) E Lg 10).2.2)))) 0 0)) 24 (fun i hi ih => ?_)
  refine M_iload_n (pc := 10) C dX4_plan_10 rfl ?_
  refine M_bipush (pc := 11) C (by decide) dX4_plan_11 ?_
  refine M_icmp_ge (pc := 13) C (tgt := 42) (by omega) (by omega) dX4_plan_13 (by decide) (fun h_13 => ?_) (fun h_13 => ?_)
  · have hi24 : i = 24 := by omega
    subst hi24
    refine M_iconst (pc := 42) C dX4_plan_42 ?_
    refine M_istore_n (pc := 43) C dX4_plan_43 (by decide) ?_
    refine loop_le (P := fun i => (∀ j, j < i → pnN ((clI (v 5) (v 8) E Lg 10).2.1) NB NS (flN (v 2) (v 6) (v 8) F 24) j = false) → M κ N T 44 [some (vR 70), some (vR 1), some (vI ((i : Nat) : Int)), none] [] (sa (sa (sa (sa (sa (sa v 74 ((pnS ((clI (v 5) (v 8) E Lg 10).2.1) NB NS (flN (v 2) (v 6) (v 8) F 24) i).1)) 75 ((pnS ((clI (v 5) (v 8) E Lg 10).2.1) NB NS (flN (v 2) (v 6) (v 8) F 24) i).2.1)) 76 ((pnS ((clI (v 5) (v 8) E Lg 10).2.1) NB NS (flN (v 2) (v 6) (v 8) F 24) i).2.2)) 72 ((clI (v 5) (v 8) E Lg 10).1)) 73 ((clI (v 5) (v 8) E Lg 10).2.1)) 71 (rs X 2 (((clI (v 5) (v 8) E Lg 10).2.2 : Nat) : Int))) 0 0 (QP κ N T (fun r1 v1 => ∃ NB2 NS2 F2, v1 = sa (sa (sa (sa (sa (sa v 74 NB2) 75 NS2) 76 F2) 72 ((clI (v 5) (v 8) E Lg 10).1)) 73 ((clI (v 5) (v 8) E Lg 10).2.1)) 71 (rs X 2 (((clI (v 5) (v 8) E Lg 10).2.2 : Nat) : Int)) ∧ ((orB (pnN ((clI (v 5) (v 8) E Lg 10).2.1) NB NS (flN (v 2) (v 6) (v 8) F 24)) ((clI (v 5) (v 8) E Lg 10).2.2) = true ∧ r1 = some (vI (-1))) ∨ (orB (pnN ((clI (v 5) (v 8) E Lg 10).2.1) NB NS (flN (v 2) (v 6) (v 8) F 24)) ((clI (v 5) (v 8) E Lg 10).2.2) = false ∧ r1 = some (vI (emN F2)) ∧ (NB2, NS2, F2) = pnS ((clI (v 5) (v 8) E Lg 10).2.1) NB NS (flN (v 2) (v 6) (v 8) F 24) ((clI (v 5) (v 8) E Lg 10).2.2)))) 0 0)) ((clI (v 5) (v 8) E Lg 10).2.2) (fun i hi ih => ?_) (fun j hj => absurd hj (Nat.not_lt_zero j))
    intro hin
    have hi2 := hi
    refine M_iload_n (pc := 44) C dX4_plan_44 rfl ?_
    refine M_aload_n (pc := 45) C dX4_plan_45 rfl (by decide) ?_
    refine A_getR (pc := 46) C fl_X4_12 rfl (a := 70) (j := 71) rfl (tt_70 hT) rfl dX4_plan_46 ?_
    refine A_getI (pc := 49) C fl_X4_38 rfl (a := 71) rfl (tt_71 hT) dX4_plan_49 (fun (r_49 : i32 ((rs X 2 (((clI (v 5) (v 8) E Lg 10).2.2 : Nat) : Int)) 2)) => ?_)
    refine M.to (pc := 52) (st2 := [vI ((rs X 2 (((clI (v 5) (v 8) E Lg 10).2.2 : Nat) : Int)) 2), vI ((i : Nat) : Int)]) ?_ rfl rfl rfl
    refine M.to (st2 := [vI (((clI (v 5) (v 8) E Lg 10).2.2 : Nat) : Int), vI ((i : Nat) : Int)]) ?_ rfl (by rw [rs_eq]) rfl
    refine M_icmp_ge (pc := 52) C (tgt := 127) (by omega) (by omega) dX4_plan_52 (by decide) (fun h_52 => ?_) (fun h_52 => ?_)
    · refine M_aload_n (pc := 127) C dX4_plan_127 rfl (by decide) ?_
      refine A_cV (pc := 128) C (x := vI (emN ((pnS ((clI (v 5) (v 8) E Lg 10).2.1) NB NS (flN (v 2) (v 6) (v 8) F 24) i).2.2))) (a := 70) (c := 4) (c_X4_emptyBlocks hT (v := sa (sa (sa (sa (sa (sa v 74 ((pnS ((clI (v 5) (v 8) E Lg 10).2.1) NB NS (flN (v 2) (v 6) (v 8) F 24) i).1)) 75 ((pnS ((clI (v 5) (v 8) E Lg 10).2.1) NB NS (flN (v 2) (v 6) (v 8) F 24) i).2.1)) 76 ((pnS ((clI (v 5) (v 8) E Lg 10).2.1) NB NS (flN (v 2) (v 6) (v 8) F 24) i).2.2)) 72 ((clI (v 5) (v 8) E Lg 10).1)) 73 ((clI (v 5) (v 8) E Lg 10).2.1)) 71 (rs X 2 (((clI (v 5) (v 8) E Lg 10).2.2 : Nat) : Int)))) yw_X4_emptyBlocks lk_X4_52 rfl (congrArg Prod.fst (tt_70 hT)) hc_4 rfl dX4_plan_128 rfl (Nat.le_of_ble_eq_true rfl) (by decide) ⟨Nat.le_refl _, Nat.le_refl _⟩ ?_
      exact M_iretP (pc := 131) C rfl dX4_plan_131 ⟨_, _, _, rfl, Or.inr ⟨orB_f (p := pnN ((clI (v 5) (v 8) E Lg 10).2.1) NB NS (flN (v 2) (v 6) (v 8) F 24)) (fun j hj => hin j (by omega)), rfl, by rw [show (clI (v 5) (v 8) E Lg 10).2.2 = i by omega]⟩⟩
    · refine M_iload_n (pc := 55) C dX4_plan_55 rfl ?_
      refine M_bipush (pc := 56) C (by decide) dX4_plan_56 ?_
      refine M_icmp_ge (pc := 58) C (tgt := 127) (by omega) (by omega) dX4_plan_58 (by decide) (fun h_58 => ?_) (fun h_58 => ?_)
      · refine M_aload_n (pc := 127) C dX4_plan_127 rfl (by decide) ?_
        refine A_cV (pc := 128) C (x := vI (emN ((pnS ((clI (v 5) (v 8) E Lg 10).2.1) NB NS (flN (v 2) (v 6) (v 8) F 24) i).2.2))) (a := 70) (c := 4) (c_X4_emptyBlocks hT (v := sa (sa (sa (sa (sa (sa v 74 ((pnS ((clI (v 5) (v 8) E Lg 10).2.1) NB NS (flN (v 2) (v 6) (v 8) F 24) i).1)) 75 ((pnS ((clI (v 5) (v 8) E Lg 10).2.1) NB NS (flN (v 2) (v 6) (v 8) F 24) i).2.1)) 76 ((pnS ((clI (v 5) (v 8) E Lg 10).2.1) NB NS (flN (v 2) (v 6) (v 8) F 24) i).2.2)) 72 ((clI (v 5) (v 8) E Lg 10).1)) 73 ((clI (v 5) (v 8) E Lg 10).2.1)) 71 (rs X 2 (((clI (v 5) (v 8) E Lg 10).2.2 : Nat) : Int)))) yw_X4_emptyBlocks lk_X4_52 rfl (congrArg Prod.fst (tt_70 hT)) hc_4 rfl dX4_plan_128 rfl (Nat.le_of_ble_eq_true rfl) (by decide) ⟨Nat.le_refl _, Nat.le_refl _⟩ ?_
        exact M_iretP (pc := 131) C rfl dX4_plan_131 ⟨_, _, _, rfl, Or.inr ⟨orB_f (p := pnN ((clI (v 5) (v 8) E Lg 10).2.1) NB NS (flN (v 2) (v 6) (v 8) F 24)) (fun j hj => hin j (by omega)), rfl, by rw [show (clI (v 5) (v 8) E Lg 10).2.2 = i by omega]⟩⟩
      · refine M_aload_n (pc := 61) C dX4_plan_61 rfl (by decide) ?_
        refine M_aload_n (pc := 62) C dX4_plan_62 rfl (by decide) ?_
        refine A_getR (pc := 63) C fl_X4_12 rfl (a := 70) (j := 71) rfl (tt_70 hT) rfl dX4_plan_63 ?_
        refine A_getR (pc := 66) C fl_X4_42 rfl (a := 71) (j := 73) rfl (tt_71 hT) rfl dX4_plan_66 ?_
        refine M_iload_n (pc := 69) C dX4_plan_69 rfl ?_
        refine A_iald (pc := 70) C (a := 73) (q := i) rfl (tt_73 hT) (by decide) rfl (by omega) dX4_plan_70 (fun (r_70 : i32 (((clI (v 5) (v 8) E Lg 10).2.1) i)) => ?_)
        refine M.to (pc := 71) (st2 := [vI (((clI (v 5) (v 8) E Lg 10).2.1) i), vR 70]) ?_ rfl rfl rfl
        have hLi := hL i (by omega)
        obtain ⟨w, hw2⟩ : ∃ w : Nat, ((clI (v 5) (v 8) E Lg 10).2.1) i = (w : Int) := ⟨(((clI (v 5) (v 8) E Lg 10).2.1) i).toNat, by omega⟩
        have hw : w < 16 := by omega
        refine M.to (st2 := [vI ((w : Nat) : Int), vR 70]) ?_ rfl (by rw [hw2]) rfl
        refine A_cV (pc := 71) C (x := vI (pnQ (pnS ((clI (v 5) (v 8) E Lg 10).2.1) NB NS (flN (v 2) (v 6) (v 8) F 24) i).2.2 ((w : Nat) : Int))) (a := 70) (c := 4) (c_X4_firstWithRoom hT (v := sa (sa (sa (sa (sa (sa v 74 ((pnS ((clI (v 5) (v 8) E Lg 10).2.1) NB NS (flN (v 2) (v 6) (v 8) F 24) i).1)) 75 ((pnS ((clI (v 5) (v 8) E Lg 10).2.1) NB NS (flN (v 2) (v 6) (v 8) F 24) i).2.1)) 76 ((pnS ((clI (v 5) (v 8) E Lg 10).2.1) NB NS (flN (v 2) (v 6) (v 8) F 24) i).2.2)) 72 ((clI (v 5) (v 8) E Lg 10).1)) 73 ((clI (v 5) (v 8) E Lg 10).2.1)) 71 (rs X 2 (((clI (v 5) (v 8) E Lg 10).2.2 : Nat) : Int))) (w := w) hw (fun b hb => hF i hi2 hin b hb)) yw_X4_firstWithRoom lk_X4_45 rfl (congrArg Prod.fst (tt_70 hT)) hc_4 rfl dX4_plan_71 rfl (Nat.le_of_ble_eq_true rfl) (by decide) ⟨Nat.le_refl _, Nat.le_refl _⟩ ?_
        refine M.to (st2 := [vI (pnQ (pnS ((clI (v 5) (v 8) E Lg 10).2.1) NB NS (flN (v 2) (v 6) (v 8) F 24) i).2.2 (((clI (v 5) (v 8) E Lg 10).2.1) i))]) ?_ rfl (by rw [hw2]) rfl
        have hqb := firstN_bd (fun b => decide ((pnS ((clI (v 5) (v 8) E Lg 10).2.1) NB NS (flN (v 2) (v 6) (v 8) F 24) i).2.2 b + ((clI (v 5) (v 8) E Lg 10).2.1) i ≤ 16)) 24
        have hqb2 : -1 ≤ pnQ (pnS ((clI (v 5) (v 8) E Lg 10).2.1) NB NS (flN (v 2) (v 6) (v 8) F 24) i).2.2 (((clI (v 5) (v 8) E Lg 10).2.1) i) ∧ pnQ (pnS ((clI (v 5) (v 8) E Lg 10).2.1) NB NS (flN (v 2) (v 6) (v 8) F 24) i).2.2 (((clI (v 5) (v 8) E Lg 10).2.1) i) < 24 := hqb
        refine M_istore_n (pc := 74) C dX4_plan_74 (by decide) ?_
        refine M_iload_n (pc := 75) C dX4_plan_75 rfl ?_
        refine A_cS (pc := 76) C (x := vI (Bi (decide (0 ≤ pnQ (pnS ((clI (v 5) (v 8) E Lg 10).2.1) NB NS (flN (v 2) (v 6) (v 8) F 24) i).2.2 (((clI (v 5) (v 8) E Lg 10).2.1) i) ∧ pnQ (pnS ((clI (v 5) (v 8) E Lg 10).2.1) NB NS (flN (v 2) (v 6) (v 8) F 24) i).2.2 (((clI (v 5) (v 8) E Lg 10).2.1) i) < 24)))) (c_X7_isBlock hT (b := pnQ (pnS ((clI (v 5) (v 8) E Lg 10).2.1) NB NS (flN (v 2) (v 6) (v 8) F 24) i).2.2 (((clI (v 5) (v 8) E Lg 10).2.1) i)) (by omega)) yw_X7_isBlock lk_X4_49 rfl dX4_plan_76 rfl (Nat.le_of_ble_eq_true rfl) (by decide) ⟨Nat.le_refl _, Nat.le_refl _⟩ ?_
        refine M_if_ne (pc := 79) C (tgt := 84) (Bi_i32 _) dX4_plan_79 (by decide) (fun h_79 => ?_) (fun h_79 => ?_)
        · have b_79 := Bid_ne0 h_79
          have h_77 : ¬ pnQ (pnS ((clI (v 5) (v 8) E Lg 10).2.1) NB NS (flN (v 2) (v 6) (v 8) F 24) i).2.2 (((clI (v 5) (v 8) E Lg 10).2.1) i) = -1 := by omega
          have hq : pnN ((clI (v 5) (v 8) E Lg 10).2.1) NB NS (flN (v 2) (v 6) (v 8) F 24) i = false := decide_eq_false h_77
          obtain ⟨hk1, hk2, hk3⟩ := pnQ_ok h_77
          have hFk := hF i hi hin (pnQ (pnS ((clI (v 5) (v 8) E Lg 10).2.1) NB NS (flN (v 2) (v 6) (v 8) F 24) i).2.2 (((clI (v 5) (v 8) E Lg 10).2.1) i)).toNat hk1
          refine M_aload_n (pc := 84) C dX4_plan_84 rfl (by decide) ?_
          refine A_getR (pc := 85) C fl_X4_18 rfl (a := 70) (j := 74) rfl (tt_70 hT) rfl dX4_plan_85 ?_
          refine M_iload_n (pc := 88) C dX4_plan_88 rfl ?_
          refine M_iload_n (pc := 89) C dX4_plan_89 rfl ?_
          refine A_iast (pc := 90) C (a := 74) (q := i) rfl (tt_74 hT) (by decide) rfl (by omega) (by omega) dX4_plan_90 ?_
          refine M.to (pc := 91) (v2 := sa (sa (sa (sa (sa (sa v 74 (rs ((pnS ((clI (v 5) (v 8) E Lg 10).2.1) NB NS (flN (v 2) (v 6) (v 8) F 24) i).1) i (pnQ (pnS ((clI (v 5) (v 8) E Lg 10).2.1) NB NS (flN (v 2) (v 6) (v 8) F 24) i).2.2 (((clI (v 5) (v 8) E Lg 10).2.1) i)))) 75 ((pnS ((clI (v 5) (v 8) E Lg 10).2.1) NB NS (flN (v 2) (v 6) (v 8) F 24) i).2.1)) 76 ((pnS ((clI (v 5) (v 8) E Lg 10).2.1) NB NS (flN (v 2) (v 6) (v 8) F 24) i).2.2)) 72 ((clI (v 5) (v 8) E Lg 10).1)) 73 ((clI (v 5) (v 8) E Lg 10).2.1)) 71 (rs X 2 (((clI (v 5) (v 8) E Lg 10).2.2 : Nat) : Int))) ?_ rfl rfl (by rw [sa_up1 (by decide), sa_up1 (by decide), sa_up1 (by decide), sa_up1 (by decide), sa_up1 (by decide), sa_up0])
          refine M_aload_n (pc := 91) C dX4_plan_91 rfl (by decide) ?_
          refine A_getR (pc := 92) C fl_X4_22 rfl (a := 70) (j := 75) rfl (tt_70 hT) rfl dX4_plan_92 ?_
          refine M_iload_n (pc := 95) C dX4_plan_95 rfl ?_
          refine M_aload_n (pc := 96) C dX4_plan_96 rfl (by decide) ?_
          refine A_getR (pc := 97) C fl_X4_25 rfl (a := 70) (j := 76) rfl (tt_70 hT) rfl dX4_plan_97 ?_
          refine M_iload_n (pc := 100) C dX4_plan_100 rfl ?_
          refine A_iald (pc := 101) C (a := 76) (q := ((pnQ (pnS ((clI (v 5) (v 8) E Lg 10).2.1) NB NS (flN (v 2) (v 6) (v 8) F 24) i).2.2 (((clI (v 5) (v 8) E Lg 10).2.1) i)).toNat)) rfl (tt_76 hT) (by decide) (by omega) (by omega) dX4_plan_101 (fun (r_101 : i32 (((pnS ((clI (v 5) (v 8) E Lg 10).2.1) NB NS (flN (v 2) (v 6) (v 8) F 24) i).2.2) ((pnQ (pnS ((clI (v 5) (v 8) E Lg 10).2.1) NB NS (flN (v 2) (v 6) (v 8) F 24) i).2.2 (((clI (v 5) (v 8) E Lg 10).2.1) i)).toNat))) => ?_)
          refine M.to (pc := 102) (st2 := [vI (((pnS ((clI (v 5) (v 8) E Lg 10).2.1) NB NS (flN (v 2) (v 6) (v 8) F 24) i).2.2) ((pnQ (pnS ((clI (v 5) (v 8) E Lg 10).2.1) NB NS (flN (v 2) (v 6) (v 8) F 24) i).2.2 (((clI (v 5) (v 8) E Lg 10).2.1) i)).toNat)), vI ((i : Nat) : Int), vR 75]) ?_ rfl rfl rfl
          refine A_iast (pc := 102) C (a := 75) (q := i) rfl (tt_75 hT) (by decide) rfl (by omega) (by omega) dX4_plan_102 ?_
          refine M.to (pc := 103) (v2 := sa (sa (sa (sa (sa (sa v 74 (rs ((pnS ((clI (v 5) (v 8) E Lg 10).2.1) NB NS (flN (v 2) (v 6) (v 8) F 24) i).1) i (pnQ (pnS ((clI (v 5) (v 8) E Lg 10).2.1) NB NS (flN (v 2) (v 6) (v 8) F 24) i).2.2 (((clI (v 5) (v 8) E Lg 10).2.1) i)))) 75 (rs ((pnS ((clI (v 5) (v 8) E Lg 10).2.1) NB NS (flN (v 2) (v 6) (v 8) F 24) i).2.1) i (((pnS ((clI (v 5) (v 8) E Lg 10).2.1) NB NS (flN (v 2) (v 6) (v 8) F 24) i).2.2) ((pnQ (pnS ((clI (v 5) (v 8) E Lg 10).2.1) NB NS (flN (v 2) (v 6) (v 8) F 24) i).2.2 (((clI (v 5) (v 8) E Lg 10).2.1) i)).toNat)))) 76 ((pnS ((clI (v 5) (v 8) E Lg 10).2.1) NB NS (flN (v 2) (v 6) (v 8) F 24) i).2.2)) 72 ((clI (v 5) (v 8) E Lg 10).1)) 73 ((clI (v 5) (v 8) E Lg 10).2.1)) 71 (rs X 2 (((clI (v 5) (v 8) E Lg 10).2.2 : Nat) : Int))) ?_ rfl rfl (by rw [sa_up1 (by decide), sa_up1 (by decide), sa_up1 (by decide), sa_up1 (by decide), sa_up0])
          refine M_aload_n (pc := 103) C dX4_plan_103 rfl (by decide) ?_
          refine A_getR (pc := 104) C fl_X4_25 rfl (a := 70) (j := 76) rfl (tt_70 hT) rfl dX4_plan_104 ?_
          refine M_iload_n (pc := 107) C dX4_plan_107 rfl ?_
          refine M_dup2 (pc := 108) C rfl rfl dX4_plan_108 ?_
          refine A_iald (pc := 109) C (a := 76) (q := ((pnQ (pnS ((clI (v 5) (v 8) E Lg 10).2.1) NB NS (flN (v 2) (v 6) (v 8) F 24) i).2.2 (((clI (v 5) (v 8) E Lg 10).2.1) i)).toNat)) rfl (tt_76 hT) (by decide) (by omega) (by omega) dX4_plan_109 (fun (r_109 : i32 (((pnS ((clI (v 5) (v 8) E Lg 10).2.1) NB NS (flN (v 2) (v 6) (v 8) F 24) i).2.2) ((pnQ (pnS ((clI (v 5) (v 8) E Lg 10).2.1) NB NS (flN (v 2) (v 6) (v 8) F 24) i).2.2 (((clI (v 5) (v 8) E Lg 10).2.1) i)).toNat))) => ?_)
          refine M.to (pc := 110) (st2 := [vI (((pnS ((clI (v 5) (v 8) E Lg 10).2.1) NB NS (flN (v 2) (v 6) (v 8) F 24) i).2.2) ((pnQ (pnS ((clI (v 5) (v 8) E Lg 10).2.1) NB NS (flN (v 2) (v 6) (v 8) F 24) i).2.2 (((clI (v 5) (v 8) E Lg 10).2.1) i)).toNat)), vI (pnQ (pnS ((clI (v 5) (v 8) E Lg 10).2.1) NB NS (flN (v 2) (v 6) (v 8) F 24) i).2.2 (((clI (v 5) (v 8) E Lg 10).2.1) i)), vR 76]) ?_ rfl rfl rfl
          refine M_aload_n (pc := 110) C dX4_plan_110 rfl (by decide) ?_
          refine A_getR (pc := 111) C fl_X4_12 rfl (a := 70) (j := 71) rfl (tt_70 hT) rfl dX4_plan_111 ?_
          refine A_getR (pc := 114) C fl_X4_42 rfl (a := 71) (j := 73) rfl (tt_71 hT) rfl dX4_plan_114 ?_
          refine M_iload_n (pc := 117) C dX4_plan_117 rfl ?_
          refine A_iald (pc := 118) C (a := 73) (q := i) rfl (tt_73 hT) (by decide) rfl (by omega) dX4_plan_118 (fun (r_118 : i32 (((clI (v 5) (v 8) E Lg 10).2.1) i)) => ?_)
          refine M.to (pc := 119) (st2 := [vI (((clI (v 5) (v 8) E Lg 10).2.1) i), vI (((pnS ((clI (v 5) (v 8) E Lg 10).2.1) NB NS (flN (v 2) (v 6) (v 8) F 24) i).2.2) ((pnQ (pnS ((clI (v 5) (v 8) E Lg 10).2.1) NB NS (flN (v 2) (v 6) (v 8) F 24) i).2.2 (((clI (v 5) (v 8) E Lg 10).2.1) i)).toNat)), vI (pnQ (pnS ((clI (v 5) (v 8) E Lg 10).2.1) NB NS (flN (v 2) (v 6) (v 8) F 24) i).2.2 (((clI (v 5) (v 8) E Lg 10).2.1) i)), vR 76]) ?_ rfl rfl rfl
          refine M_iadd (pc := 119) C dX4_plan_119 ?_
          refine A_iast (pc := 120) C (a := 76) (q := ((pnQ (pnS ((clI (v 5) (v 8) E Lg 10).2.1) NB NS (flN (v 2) (v 6) (v 8) F 24) i).2.2 (((clI (v 5) (v 8) E Lg 10).2.1) i)).toNat)) rfl (tt_76 hT) (by decide) (by omega) (by omega) (by omega) dX4_plan_120 ?_
          refine M.to (pc := 121) (v2 := sa (sa (sa (sa (sa (sa v 74 (rs ((pnS ((clI (v 5) (v 8) E Lg 10).2.1) NB NS (flN (v 2) (v 6) (v 8) F 24) i).1) i (pnQ (pnS ((clI (v 5) (v 8) E Lg 10).2.1) NB NS (flN (v 2) (v 6) (v 8) F 24) i).2.2 (((clI (v 5) (v 8) E Lg 10).2.1) i)))) 75 (rs ((pnS ((clI (v 5) (v 8) E Lg 10).2.1) NB NS (flN (v 2) (v 6) (v 8) F 24) i).2.1) i (((pnS ((clI (v 5) (v 8) E Lg 10).2.1) NB NS (flN (v 2) (v 6) (v 8) F 24) i).2.2) ((pnQ (pnS ((clI (v 5) (v 8) E Lg 10).2.1) NB NS (flN (v 2) (v 6) (v 8) F 24) i).2.2 (((clI (v 5) (v 8) E Lg 10).2.1) i)).toNat)))) 76 (rs ((pnS ((clI (v 5) (v 8) E Lg 10).2.1) NB NS (flN (v 2) (v 6) (v 8) F 24) i).2.2) ((pnQ (pnS ((clI (v 5) (v 8) E Lg 10).2.1) NB NS (flN (v 2) (v 6) (v 8) F 24) i).2.2 (((clI (v 5) (v 8) E Lg 10).2.1) i)).toNat) ((((pnS ((clI (v 5) (v 8) E Lg 10).2.1) NB NS (flN (v 2) (v 6) (v 8) F 24) i).2.2) ((pnQ (pnS ((clI (v 5) (v 8) E Lg 10).2.1) NB NS (flN (v 2) (v 6) (v 8) F 24) i).2.2 (((clI (v 5) (v 8) E Lg 10).2.1) i)).toNat)) + (((clI (v 5) (v 8) E Lg 10).2.1) i)))) 72 ((clI (v 5) (v 8) E Lg 10).1)) 73 ((clI (v 5) (v 8) E Lg 10).2.1)) 71 (rs X 2 (((clI (v 5) (v 8) E Lg 10).2.2 : Nat) : Int))) ?_ rfl rfl (by rw [sa_up1 (by decide), sa_up1 (by decide), sa_up1 (by decide), sa_up0])
          refine M_iinc (pc := 121) C dX4_plan_121 rfl (by decide) ?_
          refine M_goto (pc := 124) C (tgt := 44) dX4_plan_124 (by decide) ?_
          refine M.drop [true, true, true, false] rfl ?_
          exact M.to (ih (by omega) (fun j hj => if e : j = i then (by rw [e]; exact hq) else hin j (by omega))) rfl rfl rfl
        · have b_79 := Bid_eq0 h_79
          have h_77 : pnQ (pnS ((clI (v 5) (v 8) E Lg 10).2.1) NB NS (flN (v 2) (v 6) (v 8) F 24) i).2.2 (((clI (v 5) (v 8) E Lg 10).2.1) i) = -1 := by omega
          refine M_iconst (pc := 82) C dX4_plan_82 ?_
          exact M_iretP (pc := 83) C rfl dX4_plan_83 ⟨_, _, _, rfl, Or.inl ⟨orB_t (p := pnN ((clI (v 5) (v 8) E Lg 10).2.1) NB NS (flN (v 2) (v 6) (v 8) F 24)) (i := i) (by omega) (decide_eq_true h_77), rfl⟩⟩
  · refine M_aload_n (pc := 16) C dX4_plan_16 rfl (by decide) ?_
    refine A_getR (pc := 17) C fl_X4_25 rfl (a := 70) (j := 76) rfl (tt_70 hT) rfl dX4_plan_17 ?_
    refine M_iload_n (pc := 20) C dX4_plan_20 rfl ?_
    refine M_aload_n (pc := 21) C dX4_plan_21 rfl (by decide) ?_
    refine M_iload_n (pc := 22) C dX4_plan_22 rfl ?_
    refine A_cV (pc := 23) C (x := vI (Bi (tpB (v 2) (v 6) (v 8) i))) (a := 1) (c := 0) (c_X0_takesPacking hT (b := i) (by omega)) yw_X0_takesPacking lk_X4_32 rfl (congrArg Prod.fst (tt_1 hT)) hc_0 rfl dX4_plan_23 rfl (Nat.le_of_ble_eq_true rfl) (by decide) ⟨Nat.le_refl _, Nat.le_refl _⟩ ?_
    refine M_if_eq (pc := 26) C (tgt := 33) (Bi_i32 _) dX4_plan_26 (by decide) (fun h_26 => ?_) (fun h_26 => ?_)
    · have b_26 := Bi_eq0 h_26
      have hE : flN (v 2) (v 6) (v 8) F (i + 1) = rs (flN (v 2) (v 6) (v 8) F i) i 16 := by show rs _ i (if _ then _ else _) = _; rw [if_neg (by rw [b_26]; decide)]
      refine M_bipush (pc := 33) C (by decide) dX4_plan_33 ?_
      refine A_iast (pc := 35) C (a := 76) (q := i) rfl (tt_76 hT) (by decide) rfl (by omega) (by omega) dX4_plan_35 ?_
      refine M.to (pc := 36) (v2 := sa (sa (sa (sa (sa (sa v 74 NB) 75 NS) 76 (rs (flN (v 2) (v 6) (v 8) F i) i 16)) 72 ((clI (v 5) (v 8) E Lg 10).1)) 73 ((clI (v 5) (v 8) E Lg 10).2.1)) 71 (rs X 2 (((clI (v 5) (v 8) E Lg 10).2.2 : Nat) : Int))) ?_ rfl rfl (by rw [sa_up1 (by decide), sa_up1 (by decide), sa_up1 (by decide), sa_up0])
      refine M_iinc (pc := 36) C dX4_plan_36 rfl (by decide) ?_
      refine M_goto (pc := 39) C (tgt := 10) dX4_plan_39 (by decide) ?_
      exact M.to (ih (by omega)) rfl rfl (by rw [hE])
    · have b_26 := Bi_ne0 h_26
      have hE : flN (v 2) (v 6) (v 8) F (i + 1) = rs (flN (v 2) (v 6) (v 8) F i) i 0 := by show rs _ i (if _ then _ else _) = _; rw [if_pos b_26]
      refine M_iconst (pc := 29) C dX4_plan_29 ?_
      refine M_goto (pc := 30) C (tgt := 35) dX4_plan_30 (by decide) ?_
      refine A_iast (pc := 35) C (a := 76) (q := i) rfl (tt_76 hT) (by decide) rfl (by omega) (by omega) dX4_plan_35 ?_
      refine M.to (pc := 36) (v2 := sa (sa (sa (sa (sa (sa v 74 NB) 75 NS) 76 (rs (flN (v 2) (v 6) (v 8) F i) i 0)) 72 ((clI (v 5) (v 8) E Lg 10).1)) 73 ((clI (v 5) (v 8) E Lg 10).2.1)) 71 (rs X 2 (((clI (v 5) (v 8) E Lg 10).2.2 : Nat) : Int))) ?_ rfl rfl (by rw [sa_up1 (by decide), sa_up1 (by decide), sa_up1 (by decide), sa_up0])
      refine M_iinc (pc := 36) C dX4_plan_36 rfl (by decide) ?_
      refine M_goto (pc := 39) C (tgt := 10) dX4_plan_39 (by decide) ?_
      exact M.to (ih (by omega)) rfl rfl (by rw [hE])
