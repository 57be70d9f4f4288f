theorem c_X8_of_i {N : Nat} {T : Ty} {f w : Nat} {W : Int} {v : Ct} (hT : TT T) (h : 27 + 18 * f + w < 207) (hW : W = (w : Int)) : Runs mX8_of 0 0 0 [vR 84, vI ((f : Nat) : Int), vI W] N T v (some (vI (ro (v 85) f w))) N T v := by
  subst hW
  exact c_X8_of hT h
theorem c_X8_grows {N : Nat} {T : Ty} {A R : Nat → Int} {f n : Nat} {v : Ct} (hT : TT T) (hI : RI R) (hf : f < 10) (hn : n ≤ 200) : Runs mX8_grows 8 0 0 [vR 84, vI ((f : Nat) : Int), vI ((n : Nat) : Int)] N T (sa (sa v 88 A) 85 R) (some (vI (opV (gwO R f n)))) N T (sa (sa v 88 (cpA A R 0 0 207)) 85 (opR R (gwO R f n))) := by
  have hf1 := hI f hf
  refine Runs.of (by decide) (Nat.le_of_ble_eq_true rfl) fun κ C => ?_
  refine M_aload_n (pc := 0) C dX8_grows_0 rfl (by decide) ?_
  refine A_cVv (pc := 1) C (a := 84) (c := 8) (c_X8_layAside hT (v := v) (A := A) (R := R)) yw_X8_layAside lk_X8_112 rfl (congrArg Prod.fst (tt_84 hT)) hc_8 rfl dX8_grows_1 rfl (Nat.le_of_ble_eq_true rfl) (by decide) ⟨Nat.le_refl _, Nat.le_refl _⟩ ?_
  refine M_aload_n (pc := 4) C dX8_grows_4 rfl (by decide) ?_
  refine M_iload_n (pc := 5) C dX8_grows_5 rfl ?_
  refine M_iconst (pc := 6) C dX8_grows_6 ?_
  refine A_cV (pc := 7) C (x := vI (ro R f 1)) (a := 84) (c := 8) (c_X8_of (f := f) (w := 1) hT (by omega)) yw_X8_of lk_X8_49 rfl (congrArg Prod.fst (tt_84 hT)) hc_8 rfl dX8_grows_7 rfl (Nat.le_of_ble_eq_true rfl) (by decide) ⟨Nat.le_refl _, Nat.le_refl _⟩ ?_
  refine M_rd (pc := 10) C 85 (27 + 18 * f + 1) (fun (r_7_0 : i32 (ro R f 1)) => ?_)
  refine M_iload_n (pc := 10) C dX8_grows_10 rfl ?_
  refine M_iadd (pc := 11) C dX8_grows_11 ?_
  refine M_istore_n (pc := 12) C dX8_grows_12 (by decide) ?_
  obtain ⟨S, hS⟩ : ∃ S : Nat, ro R f 1 + (n : Int) = (S : Int) := ⟨(ro R f 1 + n).toNat, by omega⟩
  refine M.to (L2 := [some (vR 84), some (vI ((f : Nat) : Int)), some (vI ((n : Nat) : Int)), some (vI ((S : Nat) : Int))]) ?_ (by rw [hS]; rfl) rfl rfl
  refine M_aload_n (pc := 13) C dX8_grows_13 rfl (by decide) ?_
  refine M_iload_n (pc := 14) C dX8_grows_14 rfl ?_
  refine M_iconst (pc := 15) C dX8_grows_15 ?_
  refine A_cV (pc := 16) C (x := vI (ro R f 2)) (a := 84) (c := 8) (c_X8_of (f := f) (w := 2) hT (by omega)) yw_X8_of lk_X8_49 rfl (congrArg Prod.fst (tt_84 hT)) hc_8 rfl dX8_grows_16 rfl (Nat.le_of_ble_eq_true rfl) (by decide) ⟨Nat.le_refl _, Nat.le_refl _⟩ ?_
  refine M_rd (pc := 19) C 85 (27 + 18 * f + 2) (fun (r_16_0 : i32 (ro R f 2)) => ?_)
  refine M_iconst (pc := 19) C dX8_grows_19 ?_
  refine M_icmp_eq (pc := 20) C (tgt := 30) (by omega) (by omega) dX8_grows_20 (by decide) (fun h_20 => ?_) (fun h_20 => ?_)
  · have ho : gwO R f n = none := if_pos (Or.inl h_20)
    have hbk : ∀ j, 207 ≤ j → R j = R j := fun _ _ => rfl
    refine M_aload_n (pc := 30) C dX8_grows_30 rfl (by decide) ?_
    refine A_cV (pc := 31) C (x := vI (-1)) (a := 84) (c := 8) (c_X8_refused hT (v := v) (A := cpA A R 0 0 207) (R := R)) yw_X8_refused lk_X8_115 rfl (congrArg Prod.fst (tt_84 hT)) hc_8 rfl dX8_grows_31 rfl (Nat.le_of_ble_eq_true rfl) (by decide) ⟨Nat.le_refl _, Nat.le_refl _⟩ ?_
    exact M_iret (pc := 34) C rfl dX8_grows_34 (by rw [ho]; rfl) (by rw [ho]; first | rfl | (show _ = sa _ 85 (rfR R); rw [cp_back hbk]))
  · refine M_iload_n (pc := 23) C dX8_grows_23 rfl ?_
    refine M_sipush (pc := 24) C (by decide) dX8_grows_24 ?_
    refine M_icmp_le (pc := 27) C (tgt := 35) (by omega) (by omega) dX8_grows_27 (by decide) (fun h_27 => ?_) (fun h_27 => ?_)
    · have hno : ¬ (ro R f 2 = 1 ∨ 200 < ro R f 1 + (n : Int)) := by omega
      refine M_aload_n (pc := 35) C dX8_grows_35 rfl (by decide) ?_
      refine M_iload_n (pc := 36) C dX8_grows_36 rfl ?_
      refine M_iload_n (pc := 37) C dX8_grows_37 rfl ?_
      refine A_cV (pc := 38) C (x := vI (Bi (gip R f n))) (a := 84) (c := 8) (c_X8_growsInPlace hT hI (f := f) (n := n) (by omega) (by omega)) yw_X8_growsInPlace lk_X8_124 rfl (congrArg Prod.fst (tt_84 hT)) hc_8 rfl dX8_grows_38 rfl (Nat.le_of_ble_eq_true rfl) (by decide) ⟨Nat.le_refl _, Nat.le_refl _⟩ ?_
      refine M_if_eq (pc := 41) C (tgt := 53) (Bi_i32 _) dX8_grows_41 (by decide) (fun h_41 => ?_) (fun h_41 => ?_)
      · have b_41 := Bi_eq0 h_41
        refine M_aload_n (pc := 53) C dX8_grows_53 rfl (by decide) ?_
        refine M_iload_n (pc := 54) C dX8_grows_54 rfl ?_
        refine A_cVv (pc := 55) C (a := 84) (c := 8) (c_X8_takeTail hT (v := sa v 88 (cpA A R 0 0 207)) (R := R) (f := f) hI (by omega)) yw_X8_takeTail lk_X8_127 rfl (congrArg Prod.fst (tt_84 hT)) hc_8 rfl dX8_grows_55 rfl (Nat.le_of_ble_eq_true rfl) (by decide) ⟨Nat.le_refl _, Nat.le_refl _⟩ ?_
        have htk := tkR_1 hI hf
        refine M_aload_n (pc := 58) C dX8_grows_58 rfl (by decide) ?_
        refine M_iload_n (pc := 59) C dX8_grows_59 rfl ?_
        refine M_iload_n (pc := 60) C dX8_grows_60 rfl ?_
        refine M_bipush (pc := 61) C (by decide) dX8_grows_61 ?_
        refine M_idiv (pc := 63) C (by omega) (by decide) dX8_grows_63 ?_
        refine A_pV (pc := 64) C (a := 84) (c := 8) (c_X8_takeWhole hT (v := sa v 88 (cpA A R 0 0 207)) (R := tkR R f) (f := f) (m := S / 16) (n := S / 16 - (ro R f 1 / 16).toNat) (RI_tkR hI hf) (by omega) (by omega) (by omega) (by omega)) yw_X8_takeWhole lk_X8_118 rfl (congrArg Prod.fst (tt_84 hT)) hc_8 rfl dX8_grows_64 rfl (Nat.le_of_ble_eq_true rfl) (by decide) ⟨Nat.le_refl _, Nat.le_refl _⟩ (fun r_64 v_64 p_64 => ?_)
        obtain ⟨R_64, rfl, rfl, hs_64, ht_64⟩ := p_64
        refine M.to (pc := 67) (st2 := [vI (Bi (twO (tkR R f) f (S / 16 - (ro R f 1 / 16).toNat)).isSome)]) (v2 := sa (sa v 88 (cpA A R 0 0 207)) 85 R_64) ?_ rfl rfl rfl
        refine M_if_eq (pc := 67) C (tgt := 86) (Bi_i32 _) dX8_grows_67 (by decide) (fun h_67 => ?_) (fun h_67 => ?_)
        · have b_67 := Bi_eq0 h_67
          have ho : gwO R f n = none := by unfold gwO; rw [if_neg hno, if_neg (by rw [b_41]; decide), hS, Int.toNat_natCast, isSome_f b_67]; rfl
          have hbk : ∀ j, 207 ≤ j → R_64 j = R j := fun j hj => (ht_64 j hj).trans (tkR_hi hI hf hj)
          refine M_aload_n (pc := 86) C dX8_grows_86 rfl (by decide) ?_
          refine A_cV (pc := 87) C (x := vI (-1)) (a := 84) (c := 8) (c_X8_refused hT (v := v) (A := cpA A R 0 0 207) (R := R_64)) yw_X8_refused lk_X8_115 rfl (congrArg Prod.fst (tt_84 hT)) hc_8 rfl dX8_grows_87 rfl (Nat.le_of_ble_eq_true rfl) (by decide) ⟨Nat.le_refl _, Nat.le_refl _⟩ ?_
          exact M_iret (pc := 90) C rfl dX8_grows_90 (by rw [ho]; rfl) (by rw [ho]; first | rfl | (show _ = sa _ 85 (rfR R); rw [cp_back hbk]))
        · have b_67 := Bi_ne0 h_67
          obtain ⟨R4, h4⟩ := isSome_t b_67
          have e4 := hs_64 R4 h4
          subst e4
          have hI4 := twO_out hf _ _ _ (RI_tkR hI hf) (by omega) (by omega) h4
          refine M_aload_n (pc := 70) C dX8_grows_70 rfl (by decide) ?_
          refine M_iload_n (pc := 71) C dX8_grows_71 rfl ?_
          refine M_iload_n (pc := 72) C dX8_grows_72 rfl ?_
          refine M_bipush (pc := 73) C (by decide) dX8_grows_73 ?_
          refine M_irem (pc := 75) C (by omega) (by decide) dX8_grows_75 ?_
          refine A_pV (pc := 76) C (a := 84) (c := 8) (c_X8_placeTail hT (v := sa v 88 (cpA A R 0 0 207)) (R := R_64) (f := f) (c := S % 16) hI4.1 (by omega) (by omega)) yw_X8_placeTail lk_X8_121 rfl (congrArg Prod.fst (tt_84 hT)) hc_8 rfl dX8_grows_76 rfl (Nat.le_of_ble_eq_true rfl) (by decide) ⟨Nat.le_refl _, Nat.le_refl _⟩ (fun r_76 v_76 p_76 => ?_)
          obtain ⟨R_76, rfl, rfl, hs_76, ht_76⟩ := p_76
          refine M.to (pc := 79) (st2 := [vI (Bi (ptO R_64 f ((S % 16 : Nat) : Int)).isSome)]) (v2 := sa (sa v 88 (cpA A R 0 0 207)) 85 R_76) ?_ rfl rfl rfl
          refine M_if_eq (pc := 79) C (tgt := 86) (Bi_i32 _) dX8_grows_79 (by decide) (fun h_79 => ?_) (fun h_79 => ?_)
          · have b_79 := Bi_eq0 h_79
            have ho : gwO R f n = none := by unfold gwO; rw [if_neg hno, if_neg (by rw [b_41]; decide), hS, Int.toNat_natCast, h4]; show Option.map _ (ptO R_64 f ((S % 16 : Nat) : Int)) = none; rw [isSome_f b_79]; rfl
            have hbk : ∀ j, 207 ≤ j → R_76 j = R j := fun j hj => (ht_76 j hj).trans ((ht_64 j hj).trans (tkR_hi hI hf hj))
            refine M_aload_n (pc := 86) C dX8_grows_86 rfl (by decide) ?_
            refine A_cV (pc := 87) C (x := vI (-1)) (a := 84) (c := 8) (c_X8_refused hT (v := v) (A := cpA A R 0 0 207) (R := R_76)) yw_X8_refused lk_X8_115 rfl (congrArg Prod.fst (tt_84 hT)) hc_8 rfl dX8_grows_87 rfl (Nat.le_of_ble_eq_true rfl) (by decide) ⟨Nat.le_refl _, Nat.le_refl _⟩ ?_
            exact M_iret (pc := 90) C rfl dX8_grows_90 (by rw [ho]; rfl) (by rw [ho]; first | rfl | (show _ = sa _ 85 (rfR R); rw [cp_back hbk]))
          · have b_79 := Bi_ne0 h_79
            obtain ⟨R5, h5⟩ := isSome_t b_79
            have e5 := hs_76 R5 h5
            subst e5
            have ho : gwO R f n = some (1, R_76) := by unfold gwO; rw [if_neg hno, if_neg (by rw [b_41]; decide), hS, Int.toNat_natCast, h4]; show Option.map _ (ptO R_64 f ((S % 16 : Nat) : Int)) = _; rw [h5]; rfl
            refine M_iconst (pc := 82) C dX8_grows_82 ?_
            refine M_goto (pc := 83) C (tgt := 90) dX8_grows_83 (by decide) ?_
            exact M_iret (pc := 90) C rfl dX8_grows_90 (by rw [ho]; rfl) (by rw [ho]; first | rfl | (show _ = sa _ 85 (rfR R); rw [cp_back hbk]))
      · have b_41 := Bi_ne0 h_41
        refine M_aload_n (pc := 44) C dX8_grows_44 rfl (by decide) ?_
        refine M_iload_n (pc := 45) C dX8_grows_45 rfl ?_
        refine M_iconst (pc := 46) C dX8_grows_46 ?_
        refine M_iload_n (pc := 47) C dX8_grows_47 rfl ?_
        refine A_cVv (pc := 48) C (a := 84) (c := 8) (c_X8_lay (f := f) (w := 1) hT (by omega) (by omega)) yw_X8_lay lk_X8_96 rfl (congrArg Prod.fst (tt_84 hT)) hc_8 rfl dX8_grows_48 rfl (Nat.le_of_ble_eq_true rfl) (by decide) ⟨Nat.le_refl _, Nat.le_refl _⟩ ?_
        refine M.to (v2 := sa (sa v 88 (cpA A R 0 0 207)) 85 (rs R (27 + 18 * f + 1) ((S : Nat) : Int))) ?_ rfl rfl (by rw [sa_up0])
        have ho : gwO R f n = some (0, rs R (27 + 18 * f + 1) ((S : Nat) : Int)) := by unfold gwO; rw [if_neg hno, if_pos b_41, hS]
        refine M_iconst (pc := 51) C dX8_grows_51 ?_
        exact M_iret (pc := 52) C rfl dX8_grows_52 (by rw [ho]; rfl) (by rw [ho]; first | rfl | (show _ = sa _ 85 (rfR R); rw [cp_back hbk]))
    · have ho : gwO R f n = none := if_pos (Or.inr (by omega))
      have hbk : ∀ j, 207 ≤ j → R j = R j := fun _ _ => rfl
      refine M_aload_n (pc := 30) C dX8_grows_30 rfl (by decide) ?_
      refine A_cV (pc := 31) C (x := vI (-1)) (a := 84) (c := 8) (c_X8_refused hT (v := v) (A := cpA A R 0 0 207) (R := R)) yw_X8_refused lk_X8_115 rfl (congrArg Prod.fst (tt_84 hT)) hc_8 rfl dX8_grows_31 rfl (Nat.le_of_ble_eq_true rfl) (by decide) ⟨Nat.le_refl _, Nat.le_refl _⟩ ?_
      exact M_iret (pc := 34) C rfl dX8_grows_34 (by rw [ho]; rfl) (by rw [ho]; first | rfl | (show _ = sa _ 85 (rfR R); rw [cp_back hbk]))
