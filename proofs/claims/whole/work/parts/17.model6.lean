theorem c_X8_creates {N : Nat} {T : Ty} {A R : Nat → Int} {s : Nat} {v : Ct} (hT : TT T) (hI : RI R) (hs : s ≤ 200) : Runs mX8_creates 8 0 0 [vR 84, vI ((s : Nat) : Int)] N T (sa (sa v 88 A) 85 R) (some (vI (crV R s))) N T (sa (sa v 88 (cpA A R 0 0 207)) 85 (crR R s)) := by
  refine Runs.of (by decide) (Nat.le_of_ble_eq_true rfl) fun κ C => ?_
  refine M_aload_n (pc := 0) C dX8_creates_0 rfl (by decide) ?_
  refine A_cV (pc := 1) C (x := vI (frnF R)) (a := 84) (c := 8) (c_X8_freeNumber hT) yw_X8_freeNumber lk_X8_109 rfl (congrArg Prod.fst (tt_84 hT)) hc_8 rfl dX8_creates_1 rfl (Nat.le_of_ble_eq_true rfl) (by decide) ⟨Nat.le_refl _, Nat.le_refl _⟩ ?_
  have hn_1 := frnF_bd R
  refine M_istore_n (pc := 4) C dX8_creates_4 (by decide) ?_
  refine M_aload_n (pc := 5) C dX8_creates_5 rfl (by decide) ?_
  refine A_cVv (pc := 6) C (a := 84) (c := 8) (c_X8_layAside hT (v := v) (A := A) (R := R)) yw_X8_layAside lk_X8_112 rfl (congrArg Prod.fst (tt_84 hT)) hc_8 rfl dX8_creates_6 rfl (Nat.le_of_ble_eq_true rfl) (by decide) ⟨Nat.le_refl _, Nat.le_refl _⟩ ?_
  refine M_iload_n (pc := 9) C dX8_creates_9 rfl ?_
  refine M_iconst (pc := 10) C dX8_creates_10 ?_
  refine M_icmp_ne (pc := 11) C (tgt := 19) (by omega) (by omega) dX8_creates_11 (by decide) (fun h_11 => ?_) (fun h_11 => ?_)
  · obtain ⟨F, hF, hF10⟩ : ∃ F : Nat, frnF R = (F : Int) ∧ F < 10 := ⟨(frnF R).toNat, by omega, by omega⟩
    refine M.to (L2 := [some (vR 84), some (vI ((s : Nat) : Int)), some (vI ((F : Nat) : Int)), none]) ?_ (by rw [hF]; rfl) rfl rfl
    refine M_iconst (pc := 19) C dX8_creates_19 ?_
    refine M_istore_n (pc := 20) C dX8_creates_20 (by decide) ?_
    refine M.to (v2 := sa (sa v 88 (cpA A R 0 0 207)) 85 (zrR R F 0)) ?_ rfl rfl (by rw [zrR_0])
    refine loop_le (P := fun i => M κ N T 21 [some (vR 84), some (vI ((s : Nat) : Int)), some (vI ((F : Nat) : Int)), some (vI ((i : Nat) : Int))] [] (sa (sa v 88 (cpA A R 0 0 207)) 85 (zrR R F i)) 0 0 (QR κ (some (vI (crV R s))) N T (sa (sa v 88 (cpA A R 0 0 207)) 85 (crR R s)) 0 0)) 18 (fun i hi ih => ?_)
    refine M_iload_n (pc := 21) C dX8_creates_21 rfl ?_
    refine M_bipush (pc := 22) C (by decide) dX8_creates_22 ?_
    refine M_icmp_ge (pc := 24) C (tgt := 40) (by omega) (by omega) dX8_creates_24 (by decide) (fun h_24 => ?_) (fun h_24 => ?_)
    · have hi18 : i = 18 := by omega
      subst hi18
      refine M_aload_n (pc := 40) C dX8_creates_40 rfl (by decide) ?_
      refine M_iload_n (pc := 41) C dX8_creates_41 rfl ?_
      refine M_iconst (pc := 42) C dX8_creates_42 ?_
      refine M_iconst (pc := 43) C dX8_creates_43 ?_
      refine A_cVv (pc := 44) C (a := 84) (c := 8) (c_X8_lay (f := F) (w := 0) hT (by omega) (by decide)) yw_X8_lay lk_X8_96 rfl (congrArg Prod.fst (tt_84 hT)) hc_8 rfl dX8_creates_44 rfl (Nat.le_of_ble_eq_true rfl) (by decide) ⟨Nat.le_refl _, Nat.le_refl _⟩ ?_
      refine M.to (v2 := sa (sa v 88 (cpA A R 0 0 207)) 85 (rs (zrR R F 18) (27 + 18 * F + 0) 1)) ?_ rfl rfl (by rw [sa_up0])
      refine M_aload_n (pc := 47) C dX8_creates_47 rfl (by decide) ?_
      refine M_iload_n (pc := 48) C dX8_creates_48 rfl ?_
      refine M_iconst (pc := 49) C dX8_creates_49 ?_
      refine M_iconst (pc := 50) C dX8_creates_50 ?_
      refine A_cVv (pc := 51) C (a := 84) (c := 8) (c_X8_lay (f := F) (w := 3) hT (by omega) (by decide)) yw_X8_lay lk_X8_96 rfl (congrArg Prod.fst (tt_84 hT)) hc_8 rfl dX8_creates_51 rfl (Nat.le_of_ble_eq_true rfl) (by decide) ⟨Nat.le_refl _, Nat.le_refl _⟩ ?_
      refine M.to (v2 := sa (sa v 88 (cpA A R 0 0 207)) 85 (rs (rs (zrR R F 18) (27 + 18 * F + 0) 1) (27 + 18 * F + 3) (-1))) ?_ rfl rfl (by rw [sa_up0])
      refine M_aload_n (pc := 54) C dX8_creates_54 rfl (by decide) ?_
      refine M_iload_n (pc := 55) C dX8_creates_55 rfl ?_
      refine M_iconst (pc := 56) C dX8_creates_56 ?_
      refine M_iconst (pc := 57) C dX8_creates_57 ?_
      refine A_cVv (pc := 58) C (a := 84) (c := 8) (c_X8_lay (f := F) (w := 4) hT (by omega) (by decide)) yw_X8_lay lk_X8_96 rfl (congrArg Prod.fst (tt_84 hT)) hc_8 rfl dX8_creates_58 rfl (Nat.le_of_ble_eq_true rfl) (by decide) ⟨Nat.le_refl _, Nat.le_refl _⟩ ?_
      refine M.to (v2 := sa (sa v 88 (cpA A R 0 0 207)) 85 (rs (rs (rs (zrR R F 18) (27 + 18 * F + 0) 1) (27 + 18 * F + 3) (-1)) (27 + 18 * F + 4) (-1))) ?_ rfl rfl (by rw [sa_up0])
      have hq1 : ro (rs (rs (rs (zrR R F 18) (27 + 18 * F + 0) 1) (27 + 18 * F + 3) (-1)) (27 + 18 * F + 4) (-1)) F 1 = 0 := by show ro (cr1 R F) F 1 = 0; rw [cr1_ro (by omega)]; simp
      have hq2 : ro (cr1 R F) F 1 = 0 := hq1
      refine M_aload_n (pc := 61) C dX8_creates_61 rfl (by decide) ?_
      refine M_iload_n (pc := 62) C dX8_creates_62 rfl ?_
      refine M_iload_n (pc := 63) C dX8_creates_63 rfl ?_
      refine M_bipush (pc := 64) C (by decide) dX8_creates_64 ?_
      refine M_idiv (pc := 66) C (by omega) (by decide) dX8_creates_66 ?_
      refine A_pV (pc := 67) C (a := 84) (c := 8) (c_X8_takeWhole hT (v := sa v 88 (cpA A R 0 0 207)) (R := rs (rs (rs (zrR R F 18) (27 + 18 * F + 0) 1) (27 + 18 * F + 3) (-1)) (27 + 18 * F + 4) (-1)) (f := F) (m := s / 16) (n := s / 16) (RI_cr1 hI) (by omega) (by omega) (by omega) (by omega)) yw_X8_takeWhole lk_X8_118 rfl (congrArg Prod.fst (tt_84 hT)) hc_8 rfl dX8_creates_67 rfl (Nat.le_of_ble_eq_true rfl) (by decide) ⟨Nat.le_refl _, Nat.le_refl _⟩ (fun r_67 v_67 p_67 => ?_)
      obtain ⟨R_67, rfl, rfl, hs_67, ht_67⟩ := p_67
      refine M.to (pc := 70) (st2 := [vI (Bi (twO (rs (rs (rs (zrR R F 18) (27 + 18 * F + 0) 1) (27 + 18 * F + 3) (-1)) (27 + 18 * F + 4) (-1)) F (s / 16)).isSome)]) (v2 := sa (sa v 88 (cpA A R 0 0 207)) 85 R_67) ?_ rfl rfl rfl
      refine M_if_eq (pc := 70) C (tgt := 89) (Bi_i32 _) dX8_creates_70 (by decide) (fun h_70 => ?_) (fun h_70 => ?_)
      · have b_70 := Bi_eq0 h_70
        have hcrn : crO R s = none := by unfold crO; rw [if_neg (by omega), hF, Int.toNat_natCast, show twO (cr1 R F) F (s / 16) = none from isSome_f b_70]; rfl
        have hbk : ∀ j, 207 ≤ j → R_67 j = R j := fun j hj => (ht_67 j hj).trans (cr1_hi hF10 hj)
        refine M_aload_n (pc := 89) C dX8_creates_89 rfl (by decide) ?_
        refine A_cV (pc := 90) C (x := vI (-1)) (a := 84) (c := 8) (c_X8_refused hT (v := v) (A := cpA A R 0 0 207) (R := R_67)) yw_X8_refused lk_X8_115 rfl (congrArg Prod.fst (tt_84 hT)) hc_8 rfl dX8_creates_90 rfl (Nat.le_of_ble_eq_true rfl) (by decide) ⟨Nat.le_refl _, Nat.le_refl _⟩ ?_
        exact M_iret (pc := 93) C rfl dX8_creates_93 (by first | (rw [crV_s hcr, hF]; done) | (rw [crV_n hcrn]; done)) (by first | (rw [crR_s hcr]; done) | (rw [crR_n hcrn, cp_back hbk]; done))
      · have b_70 := Bi_ne0 h_70
        obtain ⟨R4, h4⟩ := isSome_t b_70
        have e4 := hs_67 R4 h4
        subst e4
        have hI4 := twO_out hF10 (s / 16) _ _ (RI_cr1 hI) (by omega) (by omega) h4
        refine M_aload_n (pc := 73) C dX8_creates_73 rfl (by decide) ?_
        refine M_iload_n (pc := 74) C dX8_creates_74 rfl ?_
        refine M_iload_n (pc := 75) C dX8_creates_75 rfl ?_
        refine M_bipush (pc := 76) C (by decide) dX8_creates_76 ?_
        refine M_irem (pc := 78) C (by omega) (by decide) dX8_creates_78 ?_
        refine A_pV (pc := 79) C (a := 84) (c := 8) (c_X8_placeTail hT (v := sa v 88 (cpA A R 0 0 207)) (R := R_67) (f := F) (c := s % 16) hI4.1 (by omega) (by omega)) yw_X8_placeTail lk_X8_121 rfl (congrArg Prod.fst (tt_84 hT)) hc_8 rfl dX8_creates_79 rfl (Nat.le_of_ble_eq_true rfl) (by decide) ⟨Nat.le_refl _, Nat.le_refl _⟩ (fun r_79 v_79 p_79 => ?_)
        obtain ⟨R_79, rfl, rfl, hs_79, ht_79⟩ := p_79
        refine M.to (pc := 82) (st2 := [vI (Bi (ptO R_67 F ((s % 16 : Nat) : Int)).isSome)]) (v2 := sa (sa v 88 (cpA A R 0 0 207)) 85 R_79) ?_ rfl rfl rfl
        refine M_if_eq (pc := 82) C (tgt := 89) (Bi_i32 _) dX8_creates_82 (by decide) (fun h_82 => ?_) (fun h_82 => ?_)
        · have b_82 := Bi_eq0 h_82
          have hcrn : crO R s = none := by unfold crO; rw [if_neg (by omega), hF, Int.toNat_natCast, show twO (cr1 R F) F (s / 16) = some R_67 from h4]; exact isSome_f b_82
          have hbk : ∀ j, 207 ≤ j → R_79 j = R j := fun j hj => (ht_79 j hj).trans ((ht_67 j hj).trans (cr1_hi hF10 hj))
          refine M_aload_n (pc := 89) C dX8_creates_89 rfl (by decide) ?_
          refine A_cV (pc := 90) C (x := vI (-1)) (a := 84) (c := 8) (c_X8_refused hT (v := v) (A := cpA A R 0 0 207) (R := R_79)) yw_X8_refused lk_X8_115 rfl (congrArg Prod.fst (tt_84 hT)) hc_8 rfl dX8_creates_90 rfl (Nat.le_of_ble_eq_true rfl) (by decide) ⟨Nat.le_refl _, Nat.le_refl _⟩ ?_
          exact M_iret (pc := 93) C rfl dX8_creates_93 (by first | (rw [crV_s hcr, hF]; done) | (rw [crV_n hcrn]; done)) (by first | (rw [crR_s hcr]; done) | (rw [crR_n hcrn, cp_back hbk]; done))
        · have b_82 := Bi_ne0 h_82
          obtain ⟨R5, h5⟩ := isSome_t b_82
          have e5 := hs_79 R5 h5
          subst e5
          have hcr : crO R s = some R_79 := by unfold crO; rw [if_neg (by omega), hF, Int.toNat_natCast, show twO (cr1 R F) F (s / 16) = some R_67 from h4]; exact h5
          refine M_iload_n (pc := 85) C dX8_creates_85 rfl ?_
          refine M_goto (pc := 86) C (tgt := 93) dX8_creates_86 (by decide) ?_
          exact M_iret (pc := 93) C rfl dX8_creates_93 (by first | (rw [crV_s hcr, hF]; done) | (rw [crV_n hcrn]; done)) (by first | (rw [crR_s hcr]; done) | (rw [crR_n hcrn, cp_back hbk]; done))
    · refine M_aload_n (pc := 27) C dX8_creates_27 rfl (by decide) ?_
      refine M_iload_n (pc := 28) C dX8_creates_28 rfl ?_
      refine M_iload_n (pc := 29) C dX8_creates_29 rfl ?_
      refine M_iconst (pc := 30) C dX8_creates_30 ?_
      refine A_cVv (pc := 31) C (a := 84) (c := 8) (c_X8_lay (f := F) (w := i) hT (by omega) (by decide)) yw_X8_lay lk_X8_96 rfl (congrArg Prod.fst (tt_84 hT)) hc_8 rfl dX8_creates_31 rfl (Nat.le_of_ble_eq_true rfl) (by decide) ⟨Nat.le_refl _, Nat.le_refl _⟩ ?_
      refine M.to (v2 := sa (sa v 88 (cpA A R 0 0 207)) 85 (rs (zrR R F i) (27 + 18 * F + i) 0)) ?_ rfl rfl (by rw [sa_up0])
      refine M_iinc (pc := 34) C dX8_creates_34 rfl (by decide) ?_
      refine M_goto (pc := 37) C (tgt := 21) dX8_creates_37 (by decide) ?_
      exact M.to (ih (by omega)) rfl rfl (by rw [zrR_s])
  · refine M_aload_n (pc := 14) C dX8_creates_14 rfl (by decide) ?_
    refine A_cV (pc := 15) C (x := vI (-1)) (a := 84) (c := 8) (c_X8_refused hT (v := v) (A := cpA A R 0 0 207) (R := R)) yw_X8_refused lk_X8_115 rfl (congrArg Prod.fst (tt_84 hT)) hc_8 rfl dX8_creates_15 rfl (Nat.le_of_ble_eq_true rfl) (by decide) ⟨Nat.le_refl _, Nat.le_refl _⟩ ?_
    exact M_iret (pc := 18) C rfl dX8_creates_18 (by rw [crV_n (show crO R s = none from if_pos h_11)]) (by rw [crR_n (show crO R s = none from if_pos h_11), cp_back (fun _ _ => rfl)])
