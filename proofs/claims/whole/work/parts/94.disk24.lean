theorem c_X7_obeyAll {N : Nat} {T : Ty} {D H A R : Nat → Int} {n : Nat} {c : Int} {v : Ct} (hT : TT T) (hx : v 67 1 = (n : Int)) (hn : n ≤ 60) (hacc : acc (v 68) D n) (hV : DV v 1 R c) (hc : c < 999900) (hR : DRx R) (hH : HOK H) : RunsP mX7_obeyAll 7 0 0 [vR 0] N T (sa v 69 D) N T (fun r1 v1 => r1 = some (vI (((rnI (v 68) n H A R 60).2.2.1 : Nat) : Int)) ∧ DV v1 1 (rnI (v 68) n H A R 60).2.2.2.2.2 (c + 61) ∧ ∀ a, (a = 0 ∨ 10 ≤ a) → a ≠ 69 → v1 a = v a) := by
  refine RunsP.of (by decide) (Nat.le_of_ble_eq_true rfl) fun κ C => ?_
  refine M_iconst (pc := 0) C dX7_obeyAll_0 ?_
  refine M_istore_n (pc := 1) C dX7_obeyAll_1 (by decide) ?_
  refine M_aload_n (pc := 2) C dX7_obeyAll_2 rfl (by decide) ?_
  refine A_getR (pc := 3) C fl_X7_37 rfl (a := 0) (j := 69) rfl (tt_0 hT) rfl dX7_obeyAll_3 ?_
  refine A_cVv (pc := 6) C (a := 69) (c := 3) (c_X3_begin hT (v := v) (D := D)) yw_X3_begin lk_X7_268 rfl (congrArg Prod.fst (tt_69 hT)) hc_3 rfl dX7_obeyAll_6 rfl (Nat.le_of_ble_eq_true rfl) (by decide) ⟨Nat.le_refl _, Nat.le_refl _⟩ ?_
  refine M_iconst (pc := 9) C dX7_obeyAll_9 ?_
  refine M_istore_n (pc := 10) C dX7_obeyAll_10 (by decide) ?_
  refine loop_ms (S := Nat × (Nat × Ct)) (P := fun S => (OA D H A R n c v S) → M κ N T 11 [some (vR 0), some (vI (((rnI (v 68) n H A R S.1).2.2.1 : Nat) : Int)), some (vI ((S.2.1 : Nat) : Int)), none] [] S.2.2 0 0 (QP κ N T (fun r1 v1 => r1 = some (vI (((rnI (v 68) n H A R 60).2.2.1 : Nat) : Int)) ∧ DV v1 1 (rnI (v 68) n H A R 60).2.2.2.2.2 (c + 61) ∧ ∀ a, (a = 0 ∨ 10 ≤ a) → a ≠ 69 → v1 a = v a) 0 0)) (fun S => n + 1 - S.2.1) (fun S ih => ?_) (0, 0, sa v 69 (rs D 0 0)) (OA.start0 hacc hV)
  intro hin
  have hS60 := hin.1
  have hV1 := hin.2.1
  have hoth := hin.2.2.1
  have h67 : S.2.2 67 = v 67 := hoth 67 (by omega) (by omega)
  have h68 : S.2.2 68 = v 68 := hoth 68 (by omega) (by omega)
  have hlo : (rnI (v 68) n H A R S.1).2.2.1 ≤ S.1 := rnI_ct S.1
  have hat0 := OA.le hn hin
  refine M_iload_n (pc := 11) C dX7_obeyAll_11 rfl ?_
  refine M_aload_n (pc := 12) C dX7_obeyAll_12 rfl (by decide) ?_
  refine A_getR (pc := 13) C fl_X7_30 rfl (a := 0) (j := 67) rfl (tt_0 hT) rfl dX7_obeyAll_13 ?_
  refine A_cV (pc := 16) C (x := vI (S.2.2 67 1)) (a := 67) (c := 6) (c_X6_length hT (v := S.2.2)) yw_X6_length lk_X7_131 rfl (congrArg Prod.fst (tt_67 hT)) hc_6 rfl dX7_obeyAll_16 rfl (Nat.le_of_ble_eq_true rfl) (by decide) ⟨Nat.le_refl _, Nat.le_refl _⟩ ?_
  refine M.to (st2 := [vI ((n : Nat) : Int), vI ((S.2.1 : Nat) : Int)]) ?_ rfl (by rw [h67, hx]) rfl
  refine M_icmp_gt (pc := 19) C (tgt := 69) (by omega) (by omega) dX7_obeyAll_19 (by decide) (fun h_19 => ?_) (fun h_19 => ?_)
  · refine M_iload_n (pc := 69) C dX7_obeyAll_69 rfl ?_
    exact M_iretP (pc := 70) C rfl dX7_obeyAll_70 ⟨by rw [(hin.fin (by omega) (fun p H2 hp => (pRp_bd hp).2) (fun i hi => by have := (Bool.and_eq_true_iff.mp hi).2; have := of_decide_eq_true this; omega)).2.1], (hin.fin (by omega) (fun p H2 hp => (pRp_bd hp).2) (fun i hi => by have := (Bool.and_eq_true_iff.mp hi).2; have := of_decide_eq_true this; omega)).1, hoth⟩
  · have hle : S.2.1 ≤ n := by omega
    obtain ⟨hF, hrc, hpe, hd69⟩ := OF.of hn hacc hR hH hin hle
    have hF60 := hF.1
    refine M_aload_n (pc := 22) C dX7_obeyAll_22 rfl (by decide) ?_
    refine A_getR (pc := 23) C fl_X7_30 rfl (a := 0) (j := 67) rfl (tt_0 hT) rfl dX7_obeyAll_23 ?_
    refine M_iload_n (pc := 26) C dX7_obeyAll_26 rfl ?_
    refine A_cV (pc := 27) C (x := vI (if 0 ≤ ((S.2.1 : Nat) : Int) ∧ ((S.2.1 : Nat) : Int) < ((n : Nat) : Int) then S.2.2 68 ((S.2.1 : Nat) : Int).toNat else -1)) (a := 67) (c := 6) (c_X6_codeAt hT (v := S.2.2) (a := ((S.2.1 : Nat) : Int)) (n := n) (by rw [h67]; exact hx) hn (by omega)) yw_X6_codeAt lk_X7_259 rfl (congrArg Prod.fst (tt_67 hT)) hc_6 rfl dX7_obeyAll_27 rfl (Nat.le_of_ble_eq_true rfl) (by decide) ⟨Nat.le_refl _, Nat.le_refl _⟩ ?_
    obtain ⟨cd, hcd⟩ : ∃ cd : Int, (if 0 ≤ ((S.2.1 : Nat) : Int) ∧ ((S.2.1 : Nat) : Int) < ((n : Nat) : Int) then S.2.2 68 ((S.2.1 : Nat) : Int).toNat else -1) = cd := ⟨_, rfl⟩
    have hcd1 : S.2.1 < n → cd = v 68 S.2.1 := fun q => by rw [← hcd, if_pos ⟨by omega, by omega⟩, h68]; rfl
    have hcd2 : S.2.1 = n → cd = -1 := fun q => by rw [← hcd, if_neg (by omega)]
    refine M.to (st2 := [vI cd]) ?_ rfl (by rw [hcd]) rfl
    refine M_rd (pc := 30) C 68 S.2.1 (fun (r_cd : i32 (S.2.2 68 S.2.1)) => ?_)
    rw [h68] at r_cd
    have hcr : i32 cd := if q : S.2.1 < n then (by rw [hcd1 q]; exact r_cd) else (by rw [hcd2 (by omega)]; decide)
    refine M_istore_n (pc := 30) C dX7_obeyAll_30 (by decide) ?_
    refine M_iload_n (pc := 31) C dX7_obeyAll_31 rfl ?_
    refine M_iconst (pc := 32) C dX7_obeyAll_32 ?_
    refine M_icmp_eq (pc := 33) C (tgt := 42) (by omega) (by omega) dX7_obeyAll_33 (by decide) (fun h_33 => ?_) (fun h_33 => ?_)
    · have hend : S.2.1 = pRp (v 68) n (rnI (v 68) n H A R S.1).2.1 (rnI (v 68) n H A R S.1).2.2.2.1 := Decidable.byContradiction fun q => by have hlt := hF.2.2.1 (by omega); have := hcd1 hlt.1; omega
      refine M_aload_n (pc := 42) C dX7_obeyAll_42 rfl (by decide) ?_
      have hen := hF.2.2.2.1 hend
      obtain ⟨f2, f3, f4, f5, f6, f7⟩ := hen
      refine A_pV (pc := 43) C (a := 0) (c := 7) (c_X7_obey (v := S.2.2) (r := (rnI (v 68) n H A R S.1).2.2.2.2.2) (c := c + S.1) (x := rnX (v 68) n (rnI (v 68) n H A R S.1)) (a := (rnH (v 68) n (rnI (v 68) n H A R S.1) 0).toNat) (b := (rnH (v 68) n (rnI (v 68) n H A R S.1) 1).toNat) hT hV1 (by omega) (by rw [hd69]; exact f3) f4 (fun q => by rw [hd69]; exact f5 q) (fun q => by rw [hd69]; exact f6 q) (fun q => by rw [hd69]; exact f7 q)) yw_X7_obey lk_X7_271 rfl (congrArg Prod.fst (tt_0 hT)) hc_7 rfl dX7_obeyAll_43 rfl (Nat.le_of_ble_eq_true rfl) (by decide) ⟨Nat.le_refl _, Nat.le_refl _⟩ (fun r_43 v_43 p_43 => ?_)
      obtain ⟨rfl, hW_43, ho_43⟩ := p_43
      refine M.to (pc := 46) (st2 := [vI (Bi (decide (rnV (v 68) n (rnI (v 68) n H A R S.1) ≠ -1)))]) (v2 := v_43) ?_ rfl rfl rfl
      have hob := hin.ob hF hrc hend hW_43 ho_43
      refine M_if_ne (pc := 46) C (tgt := 51) (Bi_i32 _) dX7_obeyAll_46 (by decide) (fun h_46 => ?_) (fun h_46 => ?_)
      · have b_46 := Bid_ne0 h_46
        have hct := rn_ct S.1 hrc
        have hct2 : (rnI (v 68) n H A R (S.1 + 1)).2.2.1 = S.1 + 1 := by rw [rnI_s hrc]; show (rnI (v 68) n H A R S.1).2.2.1 + (if rnV (v 68) n (rnI (v 68) n H A R S.1) ≠ -1 then 1 else 0) = S.1 + 1; rw [if_pos b_46, hct]
        refine M_iinc (pc := 51) C dX7_obeyAll_51 rfl (by decide) ?_
        refine M.to (L2 := [some (vR 0), some (vI (((rnI (v 68) n H A R (S.1 + 1)).2.2.1 : Nat) : Int)), some (vI ((S.2.1 : Nat) : Int)), some (vI cd)]) ?_ (by rw [hct2, hct]; rfl) rfl rfl
        refine M.to (v2 := sa v_43 69 (dS (v 68) (rs D 0 0) 0 S.2.1)) ?_ rfl rfl (by rw [← hd69, ← ho_43 69 (by omega)]; exact sa_self v_43 69)
        have hok := rdD_ok (v 68) D S.2.1
        rw [rdD_S] at hok
        have hok1 := hok.1
        refine M_aload_n (pc := 54) C dX7_obeyAll_54 rfl (by decide) ?_
        refine A_getR (pc := 55) C fl_X7_37 rfl (a := 0) (j := 69) rfl (tt_0 hT) rfl dX7_obeyAll_55 ?_
        refine M_iload_n (pc := 58) C dX7_obeyAll_58 rfl ?_
        refine A_cV (pc := 59) C (x := vI (Bi (oTb (dS (v 68) (rs D 0 0) 0 S.2.1) ((dS (v 68) (rs D 0 0) 0 S.2.1) 0).toNat cd))) (a := 69) (c := 3) (c_X3_take hT (v := v_43) (D := dS (v 68) (rs D 0 0) 0 S.2.1) (c := cd) (d := ((dS (v 68) (rs D 0 0) 0 S.2.1) 0).toNat) hcr (by omega) (by omega) (fun q => hok.2 (by omega))) yw_X3_take lk_X7_274 rfl (congrArg Prod.fst (tt_69 hT)) hc_3 rfl dX7_obeyAll_59 rfl (Nat.le_of_ble_eq_true rfl) (by decide) ⟨Nat.le_refl _, Nat.le_refl _⟩ ?_
        refine M_pop (pc := 62) C rfl dX7_obeyAll_62 ?_
        refine M_iinc (pc := 63) C dX7_obeyAll_63 rfl (by decide) ?_
        refine M_goto (pc := 66) C (tgt := 11) dX7_obeyAll_66 (by decide) ?_
        refine M.drop [true, true, true, false] rfl ?_
        exact M.to (ih (S.1 + 1, S.2.1 + 1, sa v_43 69 (oTd (dS (v 68) (rs D 0 0) 0 S.2.1) ((dS (v 68) (rs D 0 0) 0 S.2.1) 0).toNat cd)) (by show n + 1 - (S.2.1 + 1) < n + 1 - S.2.1; omega) (by first | exact hgo | exact hob.1 b_46 _ (fun q => by rw [hcd1 q]; exact (dS_s _ _ _).symm))) rfl rfl rfl
      · have b_46 := Bid_eq0 h_46
        refine M_iload_n (pc := 49) C dX7_obeyAll_49 rfl ?_
        exact M_iretP (pc := 50) C rfl dX7_obeyAll_50 ⟨by rw [(hob.2 (Decidable.not_not.mp b_46)).2.1, rn_ct S.1 hrc], (hob.2 (Decidable.not_not.mp b_46)).1, (hob.2 (Decidable.not_not.mp b_46)).2.2⟩
    · refine M_iload_n (pc := 36) C dX7_obeyAll_36 rfl ?_
      refine M_bipush (pc := 37) C (by decide) dX7_obeyAll_37 ?_
      refine M_icmp_ne (pc := 39) C (tgt := 54) (by omega) (by omega) dX7_obeyAll_39 (by decide) (fun h_39 => ?_) (fun h_39 => ?_)
      · have hlt : S.2.1 < n := by omega
        have hne : S.2.1 ≠ pRp (v 68) n (rnI (v 68) n H A R S.1).2.1 (rnI (v 68) n H A R S.1).2.2.2.1 := fun q => by have h1 := (hF.2.2.2.1 q).1 hlt; have := hcd1 hlt; omega
        have hpl := ((hin.2.2.2).resolve_right (fun q => by omega)).2.1
        have hgo := hin.go ⟨hrc, by omega⟩ (d := oTd (dS (v 68) (rs D 0 0) 0 S.2.1) ((dS (v 68) (rs D 0 0) 0 S.2.1) 0).toNat cd) (by rw [hcd1 hlt]; exact (dS_s _ _ _).symm) hpl
        refine M.to (v2 := sa S.2.2 69 (dS (v 68) (rs D 0 0) 0 S.2.1)) ?_ rfl rfl (by rw [← hd69]; exact sa_self S.2.2 69)
        have hok := rdD_ok (v 68) D S.2.1
        rw [rdD_S] at hok
        have hok1 := hok.1
        refine M_aload_n (pc := 54) C dX7_obeyAll_54 rfl (by decide) ?_
        refine A_getR (pc := 55) C fl_X7_37 rfl (a := 0) (j := 69) rfl (tt_0 hT) rfl dX7_obeyAll_55 ?_
        refine M_iload_n (pc := 58) C dX7_obeyAll_58 rfl ?_
        refine A_cV (pc := 59) C (x := vI (Bi (oTb (dS (v 68) (rs D 0 0) 0 S.2.1) ((dS (v 68) (rs D 0 0) 0 S.2.1) 0).toNat cd))) (a := 69) (c := 3) (c_X3_take hT (v := S.2.2) (D := dS (v 68) (rs D 0 0) 0 S.2.1) (c := cd) (d := ((dS (v 68) (rs D 0 0) 0 S.2.1) 0).toNat) hcr (by omega) (by omega) (fun q => hok.2 (by omega))) yw_X3_take lk_X7_274 rfl (congrArg Prod.fst (tt_69 hT)) hc_3 rfl dX7_obeyAll_59 rfl (Nat.le_of_ble_eq_true rfl) (by decide) ⟨Nat.le_refl _, Nat.le_refl _⟩ ?_
        refine M_pop (pc := 62) C rfl dX7_obeyAll_62 ?_
        refine M_iinc (pc := 63) C dX7_obeyAll_63 rfl (by decide) ?_
        refine M_goto (pc := 66) C (tgt := 11) dX7_obeyAll_66 (by decide) ?_
        refine M.drop [true, true, true, false] rfl ?_
        exact M.to (ih (S.1, S.2.1 + 1, sa S.2.2 69 (oTd (dS (v 68) (rs D 0 0) 0 S.2.1) ((dS (v 68) (rs D 0 0) 0 S.2.1) 0).toNat cd)) (by show n + 1 - (S.2.1 + 1) < n + 1 - S.2.1; omega) (by first | exact hgo | exact hob.1 b_46 _ (fun q => by rw [hcd1 q]; exact (dS_s _ _ _).symm))) rfl rfl rfl
      · have hend : S.2.1 = pRp (v 68) n (rnI (v 68) n H A R S.1).2.1 (rnI (v 68) n H A R S.1).2.2.2.1 := Decidable.byContradiction fun q => by have hlt := hF.2.2.1 (by omega); have := hcd1 hlt.1; omega
        refine M_aload_n (pc := 42) C dX7_obeyAll_42 rfl (by decide) ?_
        have hen := hF.2.2.2.1 hend
        obtain ⟨f2, f3, f4, f5, f6, f7⟩ := hen
        refine A_pV (pc := 43) C (a := 0) (c := 7) (c_X7_obey (v := S.2.2) (r := (rnI (v 68) n H A R S.1).2.2.2.2.2) (c := c + S.1) (x := rnX (v 68) n (rnI (v 68) n H A R S.1)) (a := (rnH (v 68) n (rnI (v 68) n H A R S.1) 0).toNat) (b := (rnH (v 68) n (rnI (v 68) n H A R S.1) 1).toNat) hT hV1 (by omega) (by rw [hd69]; exact f3) f4 (fun q => by rw [hd69]; exact f5 q) (fun q => by rw [hd69]; exact f6 q) (fun q => by rw [hd69]; exact f7 q)) yw_X7_obey lk_X7_271 rfl (congrArg Prod.fst (tt_0 hT)) hc_7 rfl dX7_obeyAll_43 rfl (Nat.le_of_ble_eq_true rfl) (by decide) ⟨Nat.le_refl _, Nat.le_refl _⟩ (fun r_43 v_43 p_43 => ?_)
        obtain ⟨rfl, hW_43, ho_43⟩ := p_43
        refine M.to (pc := 46) (st2 := [vI (Bi (decide (rnV (v 68) n (rnI (v 68) n H A R S.1) ≠ -1)))]) (v2 := v_43) ?_ rfl rfl rfl
        have hob := hin.ob hF hrc hend hW_43 ho_43
        refine M_if_ne (pc := 46) C (tgt := 51) (Bi_i32 _) dX7_obeyAll_46 (by decide) (fun h_46 => ?_) (fun h_46 => ?_)
        · have b_46 := Bid_ne0 h_46
          have hct := rn_ct S.1 hrc
          have hct2 : (rnI (v 68) n H A R (S.1 + 1)).2.2.1 = S.1 + 1 := by rw [rnI_s hrc]; show (rnI (v 68) n H A R S.1).2.2.1 + (if rnV (v 68) n (rnI (v 68) n H A R S.1) ≠ -1 then 1 else 0) = S.1 + 1; rw [if_pos b_46, hct]
          refine M_iinc (pc := 51) C dX7_obeyAll_51 rfl (by decide) ?_
          refine M.to (L2 := [some (vR 0), some (vI (((rnI (v 68) n H A R (S.1 + 1)).2.2.1 : Nat) : Int)), some (vI ((S.2.1 : Nat) : Int)), some (vI cd)]) ?_ (by rw [hct2, hct]; rfl) rfl rfl
          refine M.to (v2 := sa v_43 69 (dS (v 68) (rs D 0 0) 0 S.2.1)) ?_ rfl rfl (by rw [← hd69, ← ho_43 69 (by omega)]; exact sa_self v_43 69)
          have hok := rdD_ok (v 68) D S.2.1
          rw [rdD_S] at hok
          have hok1 := hok.1
          refine M_aload_n (pc := 54) C dX7_obeyAll_54 rfl (by decide) ?_
          refine A_getR (pc := 55) C fl_X7_37 rfl (a := 0) (j := 69) rfl (tt_0 hT) rfl dX7_obeyAll_55 ?_
          refine M_iload_n (pc := 58) C dX7_obeyAll_58 rfl ?_
          refine A_cV (pc := 59) C (x := vI (Bi (oTb (dS (v 68) (rs D 0 0) 0 S.2.1) ((dS (v 68) (rs D 0 0) 0 S.2.1) 0).toNat cd))) (a := 69) (c := 3) (c_X3_take hT (v := v_43) (D := dS (v 68) (rs D 0 0) 0 S.2.1) (c := cd) (d := ((dS (v 68) (rs D 0 0) 0 S.2.1) 0).toNat) hcr (by omega) (by omega) (fun q => hok.2 (by omega))) yw_X3_take lk_X7_274 rfl (congrArg Prod.fst (tt_69 hT)) hc_3 rfl dX7_obeyAll_59 rfl (Nat.le_of_ble_eq_true rfl) (by decide) ⟨Nat.le_refl _, Nat.le_refl _⟩ ?_
          refine M_pop (pc := 62) C rfl dX7_obeyAll_62 ?_
          refine M_iinc (pc := 63) C dX7_obeyAll_63 rfl (by decide) ?_
          refine M_goto (pc := 66) C (tgt := 11) dX7_obeyAll_66 (by decide) ?_
          refine M.drop [true, true, true, false] rfl ?_
          exact M.to (ih (S.1 + 1, S.2.1 + 1, sa v_43 69 (oTd (dS (v 68) (rs D 0 0) 0 S.2.1) ((dS (v 68) (rs D 0 0) 0 S.2.1) 0).toNat cd)) (by show n + 1 - (S.2.1 + 1) < n + 1 - S.2.1; omega) (by first | exact hgo | exact hob.1 b_46 _ (fun q => by rw [hcd1 q]; exact (dS_s _ _ _).symm))) rfl rfl rfl
        · have b_46 := Bid_eq0 h_46
          refine M_iload_n (pc := 49) C dX7_obeyAll_49 rfl ?_
          exact M_iretP (pc := 50) C rfl dX7_obeyAll_50 ⟨by rw [(hob.2 (Decidable.not_not.mp b_46)).2.1, rn_ct S.1 hrc], (hob.2 (Decidable.not_not.mp b_46)).1, (hob.2 (Decidable.not_not.mp b_46)).2.2⟩
