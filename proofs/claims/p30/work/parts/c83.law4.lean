set_option maxHeartbeats 8000000 in
theorem c_L_packs {N : Nat} {T : Ty} {r P : Nat → Int} {c : Int} {s : Nat} {v : Ct} (hT : TT T) (hV : DV v 1 r c) (hHV : HVr v P s c) (hc : c < 900000) : RunsP mL_packs 13 0 0 [vR 0] N T v N T (fun r1 v1 => r1 = some (vI 1) ∧ DV v1 1 (pkRR r) (c + 1) ∧ HVr v1 (svP P r s) (svN s) (c + 1) ∧ fr v v1) := by
  have hH : DR (v 2) (v 3) (v 4) (v 5) (v 6) (v 7) (v 8) (v 9) r := hV.1
  have hC : CNT (v 1) (v 9) r c := hV.2
  have hs := hHV.1
  have hs6 := hHV.2.1
  have hfr_v : fr v v := fun _ _ => rfl
  obtain ⟨hr0, hr1, hr2, hrP⟩ := hC.bds (by omega)
  have hBI : ∀ {b9 w9 : Nat}, b9 < 24 → w9 < 5 → -1 ≤ biF r b9 w9 ∧ biF r b9 w9 ≤ 24 := fun h1 h2 => hH.biB h1 h2
  have hPR : ∀ {f9 w9 : Nat}, f9 < 10 → ro r f9 0 = 1 → w9 < 7 → -1 ≤ prF r f9 w9 ∧ prF r f9 w9 ≤ 1000000 := fun h1 h2 h3 => hH.prB hrP h1 h2 h3
  have hCT : ∀ {w9 : Nat}, w9 < 12 → 0 ≤ ctX r s w9 ∧ ctX r s w9 ≤ 1000000 := fun h => hH.ctB ⟨by omega, by omega⟩ ⟨by omega, by omega⟩ hr2 hs6 h
  clear hr2
  obtain ⟨hqs, hqf, hqe, hqg⟩ := hH.packQ hr1
  have hpi := pkV_i r
  have hfb := fbG_bd r
  refine RunsP.of (by decide) (Nat.le_of_ble_eq_true rfl) fun κ C => ?_
  refine M_aload_n (pc := 0) C dL_packs_0 rfl (by decide) ?_
  refine A_pV (pc := 1) C (a := 0) (c := 7) (c_X7_ifPacked (v := v) (r := r) (c := c) hT hV) yw_X7_ifPacked lk_L_59 rfl (congrArg Prod.fst (tt_0 hT)) hc_7 rfl dL_packs_1 rfl (Nat.le_of_ble_eq_true rfl) (by decide) ⟨Nat.le_refl _, Nat.le_refl _⟩ (fun r_1 v_1 p_1 => ?_)
  obtain ⟨rfl, hf_1⟩ := p_1
  refine M.to (pc := 4) (st2 := [vI (pkV r)]) (v2 := v_1) ?_ rfl rfl rfl
  have hV_1 : DV v_1 1 r c := hV.same (fun k hk => hf_1 _ (by omega)) (fun _ _ => rfl)
  have hHV_1 := hHV.same (v1 := v_1) (fun a h1 h2 => hf_1 a (by omega))
  have hs_1 := hHV_1.1
  have hfr_1 : fr v v_1 := fun a ha => (hf_1 a (by omega)).trans (hfr_v a ha)
  refine M_istore_n (pc := 4) C dL_packs_4 (by decide) ?_
  refine M.to (L2 := [some (vR 0), some (vI (pkV r)), none, none, none, none, none]) ?_ rfl rfl rfl
  refine M_aload_n (pc := 5) C dL_packs_5 rfl (by decide) ?_
  refine M_iconst (pc := 6) C dL_packs_6 ?_
  refine A_cV (pc := 7) C (x := vI (ctX r s 3)) (a := 0) (c := 7) (c_X7_count (v := v_1) (r := r) (c := c) (s := s) (w := 3) hT hV_1 (by omega) hs_1) yw_X7_count lk_L_31 rfl (congrArg Prod.fst (tt_0 hT)) hc_7 rfl dL_packs_7 rfl (Nat.le_of_ble_eq_true rfl) (by decide) ⟨Nat.le_refl _, Nat.le_refl _⟩ ?_
  have hct_7 := hCT (w9 := 3) (by omega)
  have hck_7 : ctX r s 3 = cntK r 2 := rfl
  refine M_istore_n (pc := 10) C dL_packs_10 (by decide) ?_
  refine M.to (L2 := [some (vR 0), some (vI (pkV r)), some (vI (ctX r s 3)), none, none, none, none]) ?_ rfl rfl rfl
  refine M_aload_n (pc := 11) C dL_packs_11 rfl (by decide) ?_
  refine M_bipush (pc := 12) C (by decide) dL_packs_12 ?_
  refine A_cV (pc := 14) C (x := vI (ctX r s 9)) (a := 0) (c := 7) (c_X7_count (v := v_1) (r := r) (c := c) (s := s) (w := 9) hT hV_1 (by omega) hs_1) yw_X7_count lk_L_31 rfl (congrArg Prod.fst (tt_0 hT)) hc_7 rfl dL_packs_14 rfl (Nat.le_of_ble_eq_true rfl) (by decide) ⟨Nat.le_refl _, Nat.le_refl _⟩ ?_
  have hct_14 := hCT (w9 := 9) (by omega)
  have hck_14 : ctX r s 9 = r 1 := rfl
  refine M_istore_n (pc := 17) C dL_packs_17 (by decide) ?_
  refine M.to (L2 := [some (vR 0), some (vI (pkV r)), some (vI (ctX r s 3)), some (vI (ctX r s 9)), none, none, none]) ?_ rfl rfl rfl
  refine M_aload_n (pc := 18) C dL_packs_18 rfl (by decide) ?_
  refine M_iconst (pc := 19) C dL_packs_19 ?_
  refine A_pV (pc := 20) C (a := 0) (c := 7) (c_X7_fewest (v := v_1) (r := r) (c := c) (w := 0) hT hV_1 (by omega)) yw_X7_fewest lk_L_62 rfl (congrArg Prod.fst (tt_0 hT)) hc_7 rfl dL_packs_20 rfl (Nat.le_of_ble_eq_true rfl) (by decide) ⟨Nat.le_refl _, Nat.le_refl _⟩ (fun r_20 v_20 p_20 => ?_)
  obtain ⟨rfl, hf_20⟩ := p_20
  refine M.to (pc := 23) (st2 := [vI (fbG r)]) (v2 := v_20) ?_ rfl rfl rfl
  have hV_20 : DV v_20 1 r c := hV_1.same (fun k hk => hf_20 _ (by omega)) (fun _ _ => rfl)
  have hHV_20 := hHV_1.same (v1 := v_20) (fun a h1 h2 => hf_20 a (by omega))
  have hs_20 := hHV_20.1
  have hfr_20 : fr v v_20 := fun a ha => (hf_20 a (by omega)).trans (hfr_1 a ha)
  refine M_istore (pc := 23) C dL_packs_23 (by decide) ?_
  refine M.to (L2 := [some (vR 0), some (vI (pkV r)), some (vI (ctX r s 3)), some (vI (ctX r s 9)), some (vI (fbG r)), none, none]) ?_ rfl rfl rfl
  refine M_aload_n (pc := 25) C dL_packs_25 rfl (by decide) ?_
  refine A_pV (pc := 26) C (a := 0) (c := 7) (c_X7_pack (v := v_20) (r := r) (P := P) (c := c) (s := s) hT hV_20 hHV_20 (by omega)) yw_X7_pack lk_L_65 rfl (congrArg Prod.fst (tt_0 hT)) hc_7 rfl dL_packs_26 rfl (Nat.le_of_ble_eq_true rfl) (by decide) ⟨Nat.le_refl _, Nat.le_refl _⟩ (fun r_26 v_26 p_26 => ?_)
  obtain ⟨rfl, hV_26, hHV_26, hfs_26⟩ := p_26
  refine M.to (pc := 29) (st2 := [vI (pkV r)]) (v2 := v_26) ?_ rfl rfl rfl
  have hfr_26 : fr v v_26 := fun a ha => (hfs_26 a ha).trans (hfr_20 a ha)
  have hH2 := hV_26.1
  obtain ⟨hq0, hq1, hq2, hqP⟩ := CNT.bds hV_26.2 (by omega)
  have hs62 : svN s ≤ 6 := hHV_26.2.1
  have hBI2 : ∀ {b9 w9 : Nat}, b9 < 24 → w9 < 5 → -1 ≤ biF (pkRR r) b9 w9 ∧ biF (pkRR r) b9 w9 ≤ 24 := fun h1 h2 => hH2.biB h1 h2
  have hPR2 : ∀ {f9 w9 : Nat}, f9 < 10 → ro (pkRR r) f9 0 = 1 → w9 < 7 → -1 ≤ prF (pkRR r) f9 w9 ∧ prF (pkRR r) f9 w9 ≤ 1000000 := fun h1 h2 h3 => hH2.prB hqP h1 h2 h3
  have hCT2 : ∀ {w9 : Nat}, w9 < 12 → 0 ≤ ctX (pkRR r) (svN s) w9 ∧ ctX (pkRR r) (svN s) w9 ≤ 1000000 := fun h => hH2.ctB ⟨by omega, by omega⟩ ⟨by omega, by omega⟩ hq2 hs62 h
  clear hq2
  refine M_istore (pc := 29) C dL_packs_29 (by decide) ?_
  refine M.to (L2 := [some (vR 0), some (vI (pkV r)), some (vI (ctX r s 3)), some (vI (ctX r s 9)), some (vI (fbG r)), some (vI (pkV r)), none]) ?_ rfl rfl rfl
  refine M_iload (pc := 31) C dL_packs_31 rfl ?_
  refine M_iload_n (pc := 33) C dL_packs_33 rfl ?_
  refine M_icmp_ne (pc := 34) C (tgt := 103) (by omega) (by omega) dL_packs_34 (by decide) (fun h_34 => ?_) (fun h_34 => ?_)
  · exact absurd rfl h_34
  · refine M_iload (pc := 37) C dL_packs_37 rfl ?_
    refine M_aload_n (pc := 39) C dL_packs_39 rfl (by decide) ?_
    refine M_iconst (pc := 40) C dL_packs_40 ?_
    refine A_pV (pc := 41) C (a := 0) (c := 7) (c_X7_fewest (v := v_26) (r := pkRR r) (c := c + 1) (w := 1) hT hV_26 (by omega)) yw_X7_fewest lk_L_62 rfl (congrArg Prod.fst (tt_0 hT)) hc_7 rfl dL_packs_41 rfl (Nat.le_of_ble_eq_true rfl) (by decide) ⟨Nat.le_refl _, Nat.le_refl _⟩ (fun r_41 v_41 p_41 => ?_)
    obtain ⟨rfl, hf_41⟩ := p_41
    refine M.to (pc := 44) (st2 := [vI (fbG (pkRR r)), vI (fbG r)]) (v2 := v_41) ?_ rfl rfl rfl
    have hV_41 : DV v_41 1 (pkRR r) (c + 1) := hV_26.same (fun k hk => hf_41 _ (by omega)) (fun _ _ => rfl)
    have hHV_41 := hHV_26.same (v1 := v_41) (fun a h1 h2 => hf_41 a (by omega))
    have hs_41 := hHV_41.1
    have hfr_41 : fr v v_41 := fun a ha => (hf_41 a (by omega)).trans (hfr_26 a ha)
    refine M_icmp_ne (pc := 44) C (tgt := 103) (by omega) (by omega) dL_packs_44 (by decide) (fun h_44 => ?_) (fun h_44 => ?_)
    · exact absurd hqf.symm h_44
    · refine M_iload (pc := 47) C dL_packs_47 rfl ?_
      refine M_aload_n (pc := 49) C dL_packs_49 rfl (by decide) ?_
      refine M_iconst (pc := 50) C dL_packs_50 ?_
      refine A_pV (pc := 51) C (a := 0) (c := 7) (c_X7_fewest (v := v_41) (r := pkRR r) (c := c + 1) (w := 0) hT hV_41 (by omega)) yw_X7_fewest lk_L_62 rfl (congrArg Prod.fst (tt_0 hT)) hc_7 rfl dL_packs_51 rfl (Nat.le_of_ble_eq_true rfl) (by decide) ⟨Nat.le_refl _, Nat.le_refl _⟩ (fun r_51 v_51 p_51 => ?_)
      obtain ⟨rfl, hf_51⟩ := p_51
      refine M.to (pc := 54) (st2 := [vI (fbG (pkRR r)), vI (fbG r)]) (v2 := v_51) ?_ rfl rfl rfl
      have hV_51 : DV v_51 1 (pkRR r) (c + 1) := hV_41.same (fun k hk => hf_51 _ (by omega)) (fun _ _ => rfl)
      have hHV_51 := hHV_41.same (v1 := v_51) (fun a h1 h2 => hf_51 a (by omega))
      have hs_51 := hHV_51.1
      have hfr_51 : fr v v_51 := fun a ha => (hf_51 a (by omega)).trans (hfr_41 a ha)
      refine M_icmp_ne (pc := 54) C (tgt := 103) (by omega) (by omega) dL_packs_54 (by decide) (fun h_54 => ?_) (fun h_54 => ?_)
      · exact absurd hqf.symm h_54
      · refine M_aload_n (pc := 57) C dL_packs_57 rfl (by decide) ?_
        refine M_iconst (pc := 58) C dL_packs_58 ?_
        refine A_cV (pc := 59) C (x := vI (ctX (pkRR r) (svN s) 3)) (a := 0) (c := 7) (c_X7_count (v := v_51) (r := pkRR r) (c := c + 1) (s := svN s) (w := 3) hT hV_51 (by omega) hs_51) yw_X7_count lk_L_31 rfl (congrArg Prod.fst (tt_0 hT)) hc_7 rfl dL_packs_59 rfl (Nat.le_of_ble_eq_true rfl) (by decide) ⟨Nat.le_refl _, Nat.le_refl _⟩ ?_
        have hct_59 := hCT2 (w9 := 3) (by omega)
        have hck_59 : ctX (pkRR r) (svN s) 3 = cntK (pkRR r) 2 := rfl
        refine M_iload_n (pc := 62) C dL_packs_62 rfl ?_
        refine M_iload (pc := 63) C dL_packs_63 rfl ?_
        refine M_if_ge (pc := 65) C (tgt := 72) (by omega) dL_packs_65 (by decide) (fun h_65 => ?_) (fun h_65 => ?_)
        · refine M_iload (pc := 72) C dL_packs_72 rfl ?_
          refine M_isub (pc := 74) C dL_packs_74 ?_
          refine M_icmp_ne (pc := 75) C (tgt := 103) (by omega) (by omega) dL_packs_75 (by decide) (fun h_75 => ?_) (fun h_75 => ?_)
          · exfalso
            omega
          · refine M_aload_n (pc := 78) C dL_packs_78 rfl (by decide) ?_
            refine M_bipush (pc := 79) C (by decide) dL_packs_79 ?_
            refine A_cV (pc := 81) C (x := vI (ctX (pkRR r) (svN s) 9)) (a := 0) (c := 7) (c_X7_count (v := v_51) (r := pkRR r) (c := c + 1) (s := svN s) (w := 9) hT hV_51 (by omega) hs_51) yw_X7_count lk_L_31 rfl (congrArg Prod.fst (tt_0 hT)) hc_7 rfl dL_packs_81 rfl (Nat.le_of_ble_eq_true rfl) (by decide) ⟨Nat.le_refl _, Nat.le_refl _⟩ ?_
            have hct_81 := hCT2 (w9 := 9) (by omega)
            have hck_81 : ctX (pkRR r) (svN s) 9 = (pkRR r) 1 := rfl
            refine M_iload_n (pc := 84) C dL_packs_84 rfl ?_
            refine M_iload (pc := 85) C dL_packs_85 rfl ?_
            refine M_if_ge (pc := 87) C (tgt := 94) (by omega) dL_packs_87 (by decide) (fun h_87 => ?_) (fun h_87 => ?_)
            · refine M_iconst (pc := 94) C dL_packs_94 ?_
              refine M_iadd (pc := 95) C dL_packs_95 ?_
              refine M_icmp_ne (pc := 96) C (tgt := 103) (by omega) (by omega) dL_packs_96 (by decide) (fun h_96 => ?_) (fun h_96 => ?_)
              · exfalso
                omega
              · refine M_iconst (pc := 99) C dL_packs_99 ?_
                refine M_goto (pc := 100) C (tgt := 104) dL_packs_100 (by decide) ?_
                refine M_istore (pc := 104) C dL_packs_104 (by decide) ?_
                refine M.to (L2 := [some (vR 0), some (vI (pkV r)), some (vI (ctX r s 3)), some (vI (ctX r s 9)), some (vI (fbG r)), some (vI (pkV r)), some (vI 1)]) ?_ rfl rfl rfl
                refine M_iload (pc := 106) C dL_packs_106 rfl ?_
                refine M_if_eq (pc := 108) C (tgt := 134) (by decide) dL_packs_108 (by decide) (fun h => absurd h (by decide)) (fun _ => ?_)
                refine M_aload_n (pc := 111) C dL_packs_111 rfl (by decide) ?_
                refine M_bipush (pc := 112) C (by decide) dL_packs_112 ?_
                refine A_cV (pc := 114) C (x := vI (ctX (pkRR r) (svN s) 7)) (a := 0) (c := 7) (c_X7_count (v := v_51) (r := pkRR r) (c := c + 1) (s := svN s) (w := 7) hT hV_51 (by omega) hs_51) yw_X7_count lk_L_31 rfl (congrArg Prod.fst (tt_0 hT)) hc_7 rfl dL_packs_114 rfl (Nat.le_of_ble_eq_true rfl) (by decide) ⟨Nat.le_refl _, Nat.le_refl _⟩ ?_
                have hct_114 := hCT2 (w9 := 7) (by omega)
                have hck_114 : ctX (pkRR r) (svN s) 7 = sumN (fun f => Bi (brB (pkRR r) f)) 10 := rfl
                refine M_if_gt (pc := 117) C (tgt := 130) (by omega) dL_packs_117 (by decide) (fun h_117 => ?_) (fun h_117 => ?_)
                · refine M_iconst (pc := 130) C dL_packs_130 ?_
                  refine M_goto (pc := 131) C (tgt := 135) dL_packs_131 (by decide) ?_
                  exact M_zretP (pc := 135) C rfl (Or.inr rfl) dL_packs_135 ⟨rfl, hV_51, hHV_51, hfr_51⟩
                · refine M_aload_n (pc := 120) C dL_packs_120 rfl (by decide) ?_
                  refine M_iconst (pc := 121) C dL_packs_121 ?_
                  refine A_cV (pc := 122) C (x := vI (ctX (pkRR r) (svN s) 3)) (a := 0) (c := 7) (c_X7_count (v := v_51) (r := pkRR r) (c := c + 1) (s := svN s) (w := 3) hT hV_51 (by omega) hs_51) yw_X7_count lk_L_31 rfl (congrArg Prod.fst (tt_0 hT)) hc_7 rfl dL_packs_122 rfl (Nat.le_of_ble_eq_true rfl) (by decide) ⟨Nat.le_refl _, Nat.le_refl _⟩ ?_
                  have hct_122 := hCT2 (w9 := 3) (by omega)
                  have hck_122 : ctX (pkRR r) (svN s) 3 = cntK (pkRR r) 2 := rfl
                  refine M_iload (pc := 125) C dL_packs_125 rfl ?_
                  refine M_icmp_lt (pc := 127) C (tgt := 134) (by omega) (by omega) dL_packs_127 (by decide) (fun h_127 => ?_) (fun h_127 => ?_)
                  · exfalso
                    omega
                  · refine M_iconst (pc := 130) C dL_packs_130 ?_
                    refine M_goto (pc := 131) C (tgt := 135) dL_packs_131 (by decide) ?_
                    exact M_zretP (pc := 135) C rfl (Or.inr rfl) dL_packs_135 ⟨rfl, hV_51, hHV_51, hfr_51⟩
            · refine M_iconst (pc := 90) C dL_packs_90 ?_
              refine M_goto (pc := 91) C (tgt := 95) dL_packs_91 (by decide) ?_
              refine M_iadd (pc := 95) C dL_packs_95 ?_
              refine M_icmp_ne (pc := 96) C (tgt := 103) (by omega) (by omega) dL_packs_96 (by decide) (fun h_96 => ?_) (fun h_96 => ?_)
              · exfalso
                omega
              · refine M_iconst (pc := 99) C dL_packs_99 ?_
                refine M_goto (pc := 100) C (tgt := 104) dL_packs_100 (by decide) ?_
                refine M_istore (pc := 104) C dL_packs_104 (by decide) ?_
                refine M.to (L2 := [some (vR 0), some (vI (pkV r)), some (vI (ctX r s 3)), some (vI (ctX r s 9)), some (vI (fbG r)), some (vI (pkV r)), some (vI 1)]) ?_ rfl rfl rfl
                refine M_iload (pc := 106) C dL_packs_106 rfl ?_
                refine M_if_eq (pc := 108) C (tgt := 134) (by decide) dL_packs_108 (by decide) (fun h => absurd h (by decide)) (fun _ => ?_)
                refine M_aload_n (pc := 111) C dL_packs_111 rfl (by decide) ?_
                refine M_bipush (pc := 112) C (by decide) dL_packs_112 ?_
                refine A_cV (pc := 114) C (x := vI (ctX (pkRR r) (svN s) 7)) (a := 0) (c := 7) (c_X7_count (v := v_51) (r := pkRR r) (c := c + 1) (s := svN s) (w := 7) hT hV_51 (by omega) hs_51) yw_X7_count lk_L_31 rfl (congrArg Prod.fst (tt_0 hT)) hc_7 rfl dL_packs_114 rfl (Nat.le_of_ble_eq_true rfl) (by decide) ⟨Nat.le_refl _, Nat.le_refl _⟩ ?_
                have hct_114 := hCT2 (w9 := 7) (by omega)
                have hck_114 : ctX (pkRR r) (svN s) 7 = sumN (fun f => Bi (brB (pkRR r) f)) 10 := rfl
                refine M_if_gt (pc := 117) C (tgt := 130) (by omega) dL_packs_117 (by decide) (fun h_117 => ?_) (fun h_117 => ?_)
                · refine M_iconst (pc := 130) C dL_packs_130 ?_
                  refine M_goto (pc := 131) C (tgt := 135) dL_packs_131 (by decide) ?_
                  exact M_zretP (pc := 135) C rfl (Or.inr rfl) dL_packs_135 ⟨rfl, hV_51, hHV_51, hfr_51⟩
                · refine M_aload_n (pc := 120) C dL_packs_120 rfl (by decide) ?_
                  refine M_iconst (pc := 121) C dL_packs_121 ?_
                  refine A_cV (pc := 122) C (x := vI (ctX (pkRR r) (svN s) 3)) (a := 0) (c := 7) (c_X7_count (v := v_51) (r := pkRR r) (c := c + 1) (s := svN s) (w := 3) hT hV_51 (by omega) hs_51) yw_X7_count lk_L_31 rfl (congrArg Prod.fst (tt_0 hT)) hc_7 rfl dL_packs_122 rfl (Nat.le_of_ble_eq_true rfl) (by decide) ⟨Nat.le_refl _, Nat.le_refl _⟩ ?_
                  have hct_122 := hCT2 (w9 := 3) (by omega)
                  have hck_122 : ctX (pkRR r) (svN s) 3 = cntK (pkRR r) 2 := rfl
                  refine M_iload (pc := 125) C dL_packs_125 rfl ?_
                  refine M_icmp_lt (pc := 127) C (tgt := 134) (by omega) (by omega) dL_packs_127 (by decide) (fun h_127 => ?_) (fun h_127 => ?_)
                  · exfalso
                    omega
                  · refine M_iconst (pc := 130) C dL_packs_130 ?_
                    refine M_goto (pc := 131) C (tgt := 135) dL_packs_131 (by decide) ?_
                    exact M_zretP (pc := 135) C rfl (Or.inr rfl) dL_packs_135 ⟨rfl, hV_51, hHV_51, hfr_51⟩
        · refine M_iconst (pc := 68) C dL_packs_68 ?_
          refine M_goto (pc := 69) C (tgt := 74) dL_packs_69 (by decide) ?_
          refine M_isub (pc := 74) C dL_packs_74 ?_
          refine M_icmp_ne (pc := 75) C (tgt := 103) (by omega) (by omega) dL_packs_75 (by decide) (fun h_75 => ?_) (fun h_75 => ?_)
          · exfalso
            omega
          · refine M_aload_n (pc := 78) C dL_packs_78 rfl (by decide) ?_
            refine M_bipush (pc := 79) C (by decide) dL_packs_79 ?_
            refine A_cV (pc := 81) C (x := vI (ctX (pkRR r) (svN s) 9)) (a := 0) (c := 7) (c_X7_count (v := v_51) (r := pkRR r) (c := c + 1) (s := svN s) (w := 9) hT hV_51 (by omega) hs_51) yw_X7_count lk_L_31 rfl (congrArg Prod.fst (tt_0 hT)) hc_7 rfl dL_packs_81 rfl (Nat.le_of_ble_eq_true rfl) (by decide) ⟨Nat.le_refl _, Nat.le_refl _⟩ ?_
            have hct_81 := hCT2 (w9 := 9) (by omega)
            have hck_81 : ctX (pkRR r) (svN s) 9 = (pkRR r) 1 := rfl
            refine M_iload_n (pc := 84) C dL_packs_84 rfl ?_
            refine M_iload (pc := 85) C dL_packs_85 rfl ?_
            refine M_if_ge (pc := 87) C (tgt := 94) (by omega) dL_packs_87 (by decide) (fun h_87 => ?_) (fun h_87 => ?_)
            · refine M_iconst (pc := 94) C dL_packs_94 ?_
              refine M_iadd (pc := 95) C dL_packs_95 ?_
              refine M_icmp_ne (pc := 96) C (tgt := 103) (by omega) (by omega) dL_packs_96 (by decide) (fun h_96 => ?_) (fun h_96 => ?_)
              · exfalso
                omega
              · refine M_iconst (pc := 99) C dL_packs_99 ?_
                refine M_goto (pc := 100) C (tgt := 104) dL_packs_100 (by decide) ?_
                refine M_istore (pc := 104) C dL_packs_104 (by decide) ?_
                refine M.to (L2 := [some (vR 0), some (vI (pkV r)), some (vI (ctX r s 3)), some (vI (ctX r s 9)), some (vI (fbG r)), some (vI (pkV r)), some (vI 1)]) ?_ rfl rfl rfl
                refine M_iload (pc := 106) C dL_packs_106 rfl ?_
                refine M_if_eq (pc := 108) C (tgt := 134) (by decide) dL_packs_108 (by decide) (fun h => absurd h (by decide)) (fun _ => ?_)
                refine M_aload_n (pc := 111) C dL_packs_111 rfl (by decide) ?_
                refine M_bipush (pc := 112) C (by decide) dL_packs_112 ?_
                refine A_cV (pc := 114) C (x := vI (ctX (pkRR r) (svN s) 7)) (a := 0) (c := 7) (c_X7_count (v := v_51) (r := pkRR r) (c := c + 1) (s := svN s) (w := 7) hT hV_51 (by omega) hs_51) yw_X7_count lk_L_31 rfl (congrArg Prod.fst (tt_0 hT)) hc_7 rfl dL_packs_114 rfl (Nat.le_of_ble_eq_true rfl) (by decide) ⟨Nat.le_refl _, Nat.le_refl _⟩ ?_
                have hct_114 := hCT2 (w9 := 7) (by omega)
                have hck_114 : ctX (pkRR r) (svN s) 7 = sumN (fun f => Bi (brB (pkRR r) f)) 10 := rfl
                refine M_if_gt (pc := 117) C (tgt := 130) (by omega) dL_packs_117 (by decide) (fun h_117 => ?_) (fun h_117 => ?_)
                · refine M_iconst (pc := 130) C dL_packs_130 ?_
                  refine M_goto (pc := 131) C (tgt := 135) dL_packs_131 (by decide) ?_
                  exact M_zretP (pc := 135) C rfl (Or.inr rfl) dL_packs_135 ⟨rfl, hV_51, hHV_51, hfr_51⟩
                · refine M_aload_n (pc := 120) C dL_packs_120 rfl (by decide) ?_
                  refine M_iconst (pc := 121) C dL_packs_121 ?_
                  refine A_cV (pc := 122) C (x := vI (ctX (pkRR r) (svN s) 3)) (a := 0) (c := 7) (c_X7_count (v := v_51) (r := pkRR r) (c := c + 1) (s := svN s) (w := 3) hT hV_51 (by omega) hs_51) yw_X7_count lk_L_31 rfl (congrArg Prod.fst (tt_0 hT)) hc_7 rfl dL_packs_122 rfl (Nat.le_of_ble_eq_true rfl) (by decide) ⟨Nat.le_refl _, Nat.le_refl _⟩ ?_
                  have hct_122 := hCT2 (w9 := 3) (by omega)
                  have hck_122 : ctX (pkRR r) (svN s) 3 = cntK (pkRR r) 2 := rfl
                  refine M_iload (pc := 125) C dL_packs_125 rfl ?_
                  refine M_icmp_lt (pc := 127) C (tgt := 134) (by omega) (by omega) dL_packs_127 (by decide) (fun h_127 => ?_) (fun h_127 => ?_)
                  · exfalso
                    omega
                  · refine M_iconst (pc := 130) C dL_packs_130 ?_
                    refine M_goto (pc := 131) C (tgt := 135) dL_packs_131 (by decide) ?_
                    exact M_zretP (pc := 135) C rfl (Or.inr rfl) dL_packs_135 ⟨rfl, hV_51, hHV_51, hfr_51⟩
            · refine M_iconst (pc := 90) C dL_packs_90 ?_
              refine M_goto (pc := 91) C (tgt := 95) dL_packs_91 (by decide) ?_
              refine M_iadd (pc := 95) C dL_packs_95 ?_
              refine M_icmp_ne (pc := 96) C (tgt := 103) (by omega) (by omega) dL_packs_96 (by decide) (fun h_96 => ?_) (fun h_96 => ?_)
              · exfalso
                omega
              · refine M_iconst (pc := 99) C dL_packs_99 ?_
                refine M_goto (pc := 100) C (tgt := 104) dL_packs_100 (by decide) ?_
                refine M_istore (pc := 104) C dL_packs_104 (by decide) ?_
                refine M.to (L2 := [some (vR 0), some (vI (pkV r)), some (vI (ctX r s 3)), some (vI (ctX r s 9)), some (vI (fbG r)), some (vI (pkV r)), some (vI 1)]) ?_ rfl rfl rfl
                refine M_iload (pc := 106) C dL_packs_106 rfl ?_
                refine M_if_eq (pc := 108) C (tgt := 134) (by decide) dL_packs_108 (by decide) (fun h => absurd h (by decide)) (fun _ => ?_)
                refine M_aload_n (pc := 111) C dL_packs_111 rfl (by decide) ?_
                refine M_bipush (pc := 112) C (by decide) dL_packs_112 ?_
                refine A_cV (pc := 114) C (x := vI (ctX (pkRR r) (svN s) 7)) (a := 0) (c := 7) (c_X7_count (v := v_51) (r := pkRR r) (c := c + 1) (s := svN s) (w := 7) hT hV_51 (by omega) hs_51) yw_X7_count lk_L_31 rfl (congrArg Prod.fst (tt_0 hT)) hc_7 rfl dL_packs_114 rfl (Nat.le_of_ble_eq_true rfl) (by decide) ⟨Nat.le_refl _, Nat.le_refl _⟩ ?_
                have hct_114 := hCT2 (w9 := 7) (by omega)
                have hck_114 : ctX (pkRR r) (svN s) 7 = sumN (fun f => Bi (brB (pkRR r) f)) 10 := rfl
                refine M_if_gt (pc := 117) C (tgt := 130) (by omega) dL_packs_117 (by decide) (fun h_117 => ?_) (fun h_117 => ?_)
                · refine M_iconst (pc := 130) C dL_packs_130 ?_
                  refine M_goto (pc := 131) C (tgt := 135) dL_packs_131 (by decide) ?_
                  exact M_zretP (pc := 135) C rfl (Or.inr rfl) dL_packs_135 ⟨rfl, hV_51, hHV_51, hfr_51⟩
                · refine M_aload_n (pc := 120) C dL_packs_120 rfl (by decide) ?_
                  refine M_iconst (pc := 121) C dL_packs_121 ?_
                  refine A_cV (pc := 122) C (x := vI (ctX (pkRR r) (svN s) 3)) (a := 0) (c := 7) (c_X7_count (v := v_51) (r := pkRR r) (c := c + 1) (s := svN s) (w := 3) hT hV_51 (by omega) hs_51) yw_X7_count lk_L_31 rfl (congrArg Prod.fst (tt_0 hT)) hc_7 rfl dL_packs_122 rfl (Nat.le_of_ble_eq_true rfl) (by decide) ⟨Nat.le_refl _, Nat.le_refl _⟩ ?_
                  have hct_122 := hCT2 (w9 := 3) (by omega)
                  have hck_122 : ctX (pkRR r) (svN s) 3 = cntK (pkRR r) 2 := rfl
                  refine M_iload (pc := 125) C dL_packs_125 rfl ?_
                  refine M_icmp_lt (pc := 127) C (tgt := 134) (by omega) (by omega) dL_packs_127 (by decide) (fun h_127 => ?_) (fun h_127 => ?_)
                  · exfalso
                    omega
                  · refine M_iconst (pc := 130) C dL_packs_130 ?_
                    refine M_goto (pc := 131) C (tgt := 135) dL_packs_131 (by decide) ?_
                    exact M_zretP (pc := 135) C rfl (Or.inr rfl) dL_packs_135 ⟨rfl, hV_51, hHV_51, hfr_51⟩
