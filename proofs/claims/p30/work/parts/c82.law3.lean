set_option maxHeartbeats 8000000 in
theorem c_L_cuts {N : Nat} {T : Ty} {r P : Nat → Int} {c : Int} {s : Nat} {f n : Nat} {v : Ct} (hT : TT T) (hV : DV v 1 r c) (hHV : HVr v P s c) (hc : c < 900000) (hf : f < 10) (hfi : ro r f 0 = 1) (hn : 1 ≤ n ∧ n ≤ 200) : RunsP mL_cuts 6 0 0 [vR 0, vI ((f : Nat) : Int), vI ((n : Nat) : Int)] N T v N T (fun r1 v1 => r1 = some (vI 1) ∧ DV v1 1 (opR r (cuO r f n)) (c + 1) ∧ HVr v1 (svP P r s) (svN s) (c + 1) ∧ fr v v1) := by
  have hH : DR (v 2) (v 3) (v 4) (v 5) (v 6) (v 7) (v 8) (v 9) r := hV.1
  have hC : CNT (v 1) (v 9) r c := hV.2
  have hs := hHV.1
  have hs6 := hHV.2.1
  have hfr_v : fr v v := fun _ _ => rfl
  obtain ⟨hr0, hr1, hr2, hrP⟩ := hC.bds (by omega)
  have hBI : ∀ {b9 w9 : Nat}, b9 < 24 → w9 < 5 → -1 ≤ biF r b9 w9 ∧ biF r b9 w9 ≤ 24 := fun h1 h2 => hH.biB h1 h2
  have hPR : ∀ {f9 w9 : Nat}, f9 < 10 → ro r f9 0 = 1 → w9 < 7 → -1 ≤ prF r f9 w9 ∧ prF r f9 w9 ≤ 1000000 := fun h1 h2 h3 => hH.prB hrP h1 h2 h3
  have hCT : ∀ {w9 : Nat}, w9 < 12 → 0 ≤ ctX r s w9 ∧ ctX r s w9 ≤ 1000000 := fun h => hH.ctB ⟨by omega, by omega⟩ ⟨by omega, by omega⟩ hr2 hs6 h
  clear hr2
  obtain ⟨hex, hq⟩ := hH.cutQ hr0 hf hfi hn
  have hfi2 : ro (opR r (cuO r f n)) f 0 = 1 := (hex f hf).trans hfi
  obtain ⟨z0, z200⟩ := hH.prZ hf hfi
  have htg : -1 ≤ opV (cuO r f n) ∧ opV (cuO r f n) ≤ 200 := by omega
  refine RunsP.of (by decide) (Nat.le_of_ble_eq_true rfl) fun κ C => ?_
  refine M_aload_n (pc := 0) C dL_cuts_0 rfl (by decide) ?_
  refine M_iload_n (pc := 1) C dL_cuts_1 rfl ?_
  refine M_iconst (pc := 2) C dL_cuts_2 ?_
  refine A_cV (pc := 3) C (x := vI (prF r f 0)) (a := 0) (c := 7) (c_X7_fileOf (v := v) (r := r) (c := c) (f := f) (w := 0) hT hV (by omega) hfi (by omega)) yw_X7_fileOf lk_L_15 rfl (congrArg Prod.fst (tt_0 hT)) hc_7 rfl dL_cuts_3 rfl (Nat.le_of_ble_eq_true rfl) (by decide) ⟨Nat.le_refl _, Nat.le_refl _⟩ ?_
  have hpr_3 := hPR (f9 := f) (w9 := 0) (by omega) hfi (by omega)
  refine M_istore_n (pc := 6) C dL_cuts_6 (by decide) ?_
  refine M.to (L2 := [some (vR 0), some (vI ((f : Nat) : Int)), some (vI ((n : Nat) : Int)), some (vI (prF r f 0)), none, none, none, none, none]) ?_ rfl rfl rfl
  refine M_aload_n (pc := 7) C dL_cuts_7 rfl (by decide) ?_
  refine M_iload_n (pc := 8) C dL_cuts_8 rfl ?_
  refine M_iconst (pc := 9) C dL_cuts_9 ?_
  refine A_cV (pc := 10) C (x := vI (prF r f 3)) (a := 0) (c := 7) (c_X7_fileOf (v := v) (r := r) (c := c) (f := f) (w := 3) hT hV (by omega) hfi (by omega)) yw_X7_fileOf lk_L_15 rfl (congrArg Prod.fst (tt_0 hT)) hc_7 rfl dL_cuts_10 rfl (Nat.le_of_ble_eq_true rfl) (by decide) ⟨Nat.le_refl _, Nat.le_refl _⟩ ?_
  have hpr_10 := hPR (f9 := f) (w9 := 3) (by omega) hfi (by omega)
  refine M_istore (pc := 13) C dL_cuts_13 (by decide) ?_
  refine M.to (L2 := [some (vR 0), some (vI ((f : Nat) : Int)), some (vI ((n : Nat) : Int)), some (vI (prF r f 0)), some (vI (prF r f 3)), none, none, none, none]) ?_ rfl rfl rfl
  refine M_aload_n (pc := 15) C dL_cuts_15 rfl (by decide) ?_
  refine M_iload_n (pc := 16) C dL_cuts_16 rfl ?_
  refine M_iconst (pc := 17) C dL_cuts_17 ?_
  refine A_cV (pc := 18) C (x := vI (prF r f 4)) (a := 0) (c := 7) (c_X7_fileOf (v := v) (r := r) (c := c) (f := f) (w := 4) hT hV (by omega) hfi (by omega)) yw_X7_fileOf lk_L_15 rfl (congrArg Prod.fst (tt_0 hT)) hc_7 rfl dL_cuts_18 rfl (Nat.le_of_ble_eq_true rfl) (by decide) ⟨Nat.le_refl _, Nat.le_refl _⟩ ?_
  have hpr_18 := hPR (f9 := f) (w9 := 4) (by omega) hfi (by omega)
  refine M_istore (pc := 21) C dL_cuts_21 (by decide) ?_
  refine M.to (L2 := [some (vR 0), some (vI ((f : Nat) : Int)), some (vI ((n : Nat) : Int)), some (vI (prF r f 0)), some (vI (prF r f 3)), some (vI (prF r f 4)), none, none, none]) ?_ rfl rfl rfl
  refine M_aload_n (pc := 23) C dL_cuts_23 rfl (by decide) ?_
  refine M_iload_n (pc := 24) C dL_cuts_24 rfl ?_
  refine M_iconst (pc := 25) C dL_cuts_25 ?_
  refine A_cV (pc := 26) C (x := vI (prF r f 5)) (a := 0) (c := 7) (c_X7_fileOf (v := v) (r := r) (c := c) (f := f) (w := 5) hT hV (by omega) hfi (by omega)) yw_X7_fileOf lk_L_15 rfl (congrArg Prod.fst (tt_0 hT)) hc_7 rfl dL_cuts_26 rfl (Nat.le_of_ble_eq_true rfl) (by decide) ⟨Nat.le_refl _, Nat.le_refl _⟩ ?_
  have hpr_26 := hPR (f9 := f) (w9 := 5) (by omega) hfi (by omega)
  refine M_if_ne (pc := 29) C (tgt := 41) (by omega) dL_cuts_29 (by decide) (fun h_29 => ?_) (fun h_29 => ?_)
  · rcases hq with hq | hq <;> first | (exfalso; omega; done) | skip
    refine M_iconst (pc := 41) C dL_cuts_41 ?_
    refine M_istore (pc := 42) C dL_cuts_42 (by decide) ?_
    refine M.to (L2 := [some (vR 0), some (vI ((f : Nat) : Int)), some (vI ((n : Nat) : Int)), some (vI (prF r f 0)), some (vI (prF r f 3)), some (vI (prF r f 4)), some (vI 0), none, none]) ?_ rfl rfl rfl
    refine M_aload_n (pc := 44) C dL_cuts_44 rfl (by decide) ?_
    refine M_bipush (pc := 45) C (by decide) dL_cuts_45 ?_
    refine A_cV (pc := 47) C (x := vI (ctX r s 8)) (a := 0) (c := 7) (c_X7_count (v := v) (r := r) (c := c) (s := s) (w := 8) hT hV (by omega) hs) yw_X7_count lk_L_31 rfl (congrArg Prod.fst (tt_0 hT)) hc_7 rfl dL_cuts_47 rfl (Nat.le_of_ble_eq_true rfl) (by decide) ⟨Nat.le_refl _, Nat.le_refl _⟩ ?_
    have hct_47 := hCT (w9 := 8) (by omega)
    have hck_47 : ctX r s 8 = r 0 := rfl
    refine M_istore (pc := 50) C dL_cuts_50 (by decide) ?_
    refine M.to (L2 := [some (vR 0), some (vI ((f : Nat) : Int)), some (vI ((n : Nat) : Int)), some (vI (prF r f 0)), some (vI (prF r f 3)), some (vI (prF r f 4)), some (vI 0), some (vI (ctX r s 8)), none]) ?_ rfl rfl rfl
    refine M_aload_n (pc := 52) C dL_cuts_52 rfl (by decide) ?_
    refine M_iload_n (pc := 53) C dL_cuts_53 rfl ?_
    refine M_iload_n (pc := 54) C dL_cuts_54 rfl ?_
    refine A_pV (pc := 55) C (a := 0) (c := 7) (c_X7_cut (v := v) (r := r) (P := P) (c := c) (s := s) hT hV hHV (by omega) (f := f) (n := n) (by omega) hfi (by omega)) yw_X7_cut lk_L_56 rfl (congrArg Prod.fst (tt_0 hT)) hc_7 rfl dL_cuts_55 rfl (Nat.le_of_ble_eq_true rfl) (by decide) ⟨Nat.le_refl _, Nat.le_refl _⟩ (fun r_55 v_55 p_55 => ?_)
    obtain ⟨rfl, hV_55, hHV_55, hfs_55⟩ := p_55
    refine M.to (pc := 58) (st2 := [vI (opV (cuO r f n))]) (v2 := v_55) ?_ rfl rfl rfl
    have hfr_55 : fr v v_55 := fun a ha => (hfs_55 a ha).trans (hfr_v a ha)
    have hH2 := hV_55.1
    obtain ⟨hq0, hq1, hq2, hqP⟩ := CNT.bds hV_55.2 (by omega)
    have hs62 : svN s ≤ 6 := hHV_55.2.1
    have hBI2 : ∀ {b9 w9 : Nat}, b9 < 24 → w9 < 5 → -1 ≤ biF (opR r (cuO r f n)) b9 w9 ∧ biF (opR r (cuO r f n)) b9 w9 ≤ 24 := fun h1 h2 => hH2.biB h1 h2
    have hPR2 : ∀ {f9 w9 : Nat}, f9 < 10 → ro (opR r (cuO r f n)) f9 0 = 1 → w9 < 7 → -1 ≤ prF (opR r (cuO r f n)) f9 w9 ∧ prF (opR r (cuO r f n)) f9 w9 ≤ 1000000 := fun h1 h2 h3 => hH2.prB hqP h1 h2 h3
    have hCT2 : ∀ {w9 : Nat}, w9 < 12 → 0 ≤ ctX (opR r (cuO r f n)) (svN s) w9 ∧ ctX (opR r (cuO r f n)) (svN s) w9 ≤ 1000000 := fun h => hH2.ctB ⟨by omega, by omega⟩ ⟨by omega, by omega⟩ hq2 hs62 h
    clear hq2
    refine M_iload (pc := 58) C dL_cuts_58 rfl ?_
    refine M_if_eq (pc := 60) C (tgt := 69) (by decide) dL_cuts_60 (by decide) (fun _ => ?_) (fun h => absurd h (by decide))
    refine M_iconst (pc := 69) C dL_cuts_69 ?_
    refine M_icmp_ne (pc := 70) C (tgt := 116) (by omega) (by omega) dL_cuts_70 (by decide) (fun h_70 => ?_) (fun h_70 => ?_)
    · exfalso
      omega
    · refine M_aload_n (pc := 73) C dL_cuts_73 rfl (by decide) ?_
      refine M_bipush (pc := 74) C (by decide) dL_cuts_74 ?_
      refine A_cV (pc := 76) C (x := vI (ctX (opR r (cuO r f n)) (svN s) 8)) (a := 0) (c := 7) (c_X7_count (v := v_55) (r := opR r (cuO r f n)) (c := c + 1) (s := svN s) (w := 8) hT hV_55 (by omega) hHV_55.1) yw_X7_count lk_L_31 rfl (congrArg Prod.fst (tt_0 hT)) hc_7 rfl dL_cuts_76 rfl (Nat.le_of_ble_eq_true rfl) (by decide) ⟨Nat.le_refl _, Nat.le_refl _⟩ ?_
      have hct_76 := hCT2 (w9 := 8) (by omega)
      have hck_76 : ctX (opR r (cuO r f n)) (svN s) 8 = (opR r (cuO r f n)) 0 := rfl
      refine M_iload (pc := 79) C dL_cuts_79 rfl ?_
      refine M_iload (pc := 81) C dL_cuts_81 rfl ?_
      refine M_if_eq (pc := 83) C (tgt := 90) (by decide) dL_cuts_83 (by decide) (fun _ => ?_) (fun h => absurd h (by decide))
      refine M_iconst (pc := 90) C dL_cuts_90 ?_
      refine M_iadd (pc := 91) C dL_cuts_91 ?_
      refine M_icmp_ne (pc := 92) C (tgt := 116) (by omega) (by omega) dL_cuts_92 (by decide) (fun h_92 => ?_) (fun h_92 => ?_)
      · exfalso
        omega
      · refine M_aload_n (pc := 95) C dL_cuts_95 rfl (by decide) ?_
        refine M_iload_n (pc := 96) C dL_cuts_96 rfl ?_
        refine M_iconst (pc := 97) C dL_cuts_97 ?_
        refine A_cV (pc := 98) C (x := vI (prF (opR r (cuO r f n)) f 0)) (a := 0) (c := 7) (c_X7_fileOf (v := v_55) (r := opR r (cuO r f n)) (c := c + 1) (f := f) (w := 0) hT hV_55 (by omega) hfi2 (by omega)) yw_X7_fileOf lk_L_15 rfl (congrArg Prod.fst (tt_0 hT)) hc_7 rfl dL_cuts_98 rfl (Nat.le_of_ble_eq_true rfl) (by decide) ⟨Nat.le_refl _, Nat.le_refl _⟩ ?_
        have hpr_98 := hPR2 (f9 := f) (w9 := 0) (by omega) hfi2 (by omega)
        refine M_iload (pc := 101) C dL_cuts_101 rfl ?_
        refine M_if_eq (pc := 103) C (tgt := 112) (by decide) dL_cuts_103 (by decide) (fun _ => ?_) (fun h => absurd h (by decide))
        refine M_iload_n (pc := 112) C dL_cuts_112 rfl ?_
        refine M_icmp_eq (pc := 113) C (tgt := 118) (by omega) (by omega) dL_cuts_113 (by decide) (fun h_113 => ?_) (fun h_113 => ?_)
        · refine M_iload (pc := 118) C dL_cuts_118 rfl ?_
          refine M_if_eq (pc := 120) C (tgt := 145) (by decide) dL_cuts_120 (by decide) (fun _ => ?_) (fun h => absurd h (by decide))
          refine M_iconst (pc := 145) C dL_cuts_145 ?_
          refine M_goto (pc := 146) C (tgt := 150) dL_cuts_146 (by decide) ?_
          refine M_istore (pc := 150) C dL_cuts_150 (by decide) ?_
          refine M.to (L2 := [some (vR 0), some (vI ((f : Nat) : Int)), some (vI ((n : Nat) : Int)), some (vI (prF r f 0)), some (vI (prF r f 3)), some (vI (prF r f 4)), some (vI 0), some (vI (ctX r s 8)), some (vI 1)]) ?_ rfl rfl rfl
          refine M_iload (pc := 152) C dL_cuts_152 rfl ?_
          refine M_if_eq (pc := 154) C (tgt := 179) (by decide) dL_cuts_154 (by decide) (fun h => absurd h (by decide)) (fun _ => ?_)
          refine M_aload_n (pc := 157) C dL_cuts_157 rfl (by decide) ?_
          refine M_iload_n (pc := 158) C dL_cuts_158 rfl ?_
          refine M_iconst (pc := 159) C dL_cuts_159 ?_
          refine A_cV (pc := 160) C (x := vI (prF (opR r (cuO r f n)) f 3)) (a := 0) (c := 7) (c_X7_fileOf (v := v_55) (r := opR r (cuO r f n)) (c := c + 1) (f := f) (w := 3) hT hV_55 (by omega) hfi2 (by omega)) yw_X7_fileOf lk_L_15 rfl (congrArg Prod.fst (tt_0 hT)) hc_7 rfl dL_cuts_160 rfl (Nat.le_of_ble_eq_true rfl) (by decide) ⟨Nat.le_refl _, Nat.le_refl _⟩ ?_
          have hpr_160 := hPR2 (f9 := f) (w9 := 3) (by omega) hfi2 (by omega)
          refine M_iload (pc := 163) C dL_cuts_163 rfl ?_
          refine M_icmp_ne (pc := 165) C (tgt := 183) (by omega) (by omega) dL_cuts_165 (by decide) (fun h_165 => ?_) (fun h_165 => ?_)
          · exfalso
            omega
          · refine M_aload_n (pc := 168) C dL_cuts_168 rfl (by decide) ?_
            refine M_iload_n (pc := 169) C dL_cuts_169 rfl ?_
            refine M_iconst (pc := 170) C dL_cuts_170 ?_
            refine A_cV (pc := 171) C (x := vI (prF (opR r (cuO r f n)) f 4)) (a := 0) (c := 7) (c_X7_fileOf (v := v_55) (r := opR r (cuO r f n)) (c := c + 1) (f := f) (w := 4) hT hV_55 (by omega) hfi2 (by omega)) yw_X7_fileOf lk_L_15 rfl (congrArg Prod.fst (tt_0 hT)) hc_7 rfl dL_cuts_171 rfl (Nat.le_of_ble_eq_true rfl) (by decide) ⟨Nat.le_refl _, Nat.le_refl _⟩ ?_
            have hpr_171 := hPR2 (f9 := f) (w9 := 4) (by omega) hfi2 (by omega)
            refine M_iload (pc := 174) C dL_cuts_174 rfl ?_
            refine M_icmp_ne (pc := 176) C (tgt := 183) (by omega) (by omega) dL_cuts_176 (by decide) (fun h_176 => ?_) (fun h_176 => ?_)
            · exfalso
              omega
            · refine M_iconst (pc := 179) C dL_cuts_179 ?_
              refine M_goto (pc := 180) C (tgt := 184) dL_cuts_180 (by decide) ?_
              exact M_zretP (pc := 184) C rfl (Or.inr rfl) dL_cuts_184 ⟨rfl, hV_55, hHV_55, hfr_55⟩
        · exfalso
          omega
  · refine M_iload_n (pc := 32) C dL_cuts_32 rfl ?_
    refine M_iload_n (pc := 33) C dL_cuts_33 rfl ?_
    refine M_icmp_gt (pc := 34) C (tgt := 41) (by omega) (by omega) dL_cuts_34 (by decide) (fun h_34 => ?_) (fun h_34 => ?_)
    · rcases hq with hq | hq <;> first | (exfalso; omega; done) | skip
      refine M_iconst (pc := 41) C dL_cuts_41 ?_
      refine M_istore (pc := 42) C dL_cuts_42 (by decide) ?_
      refine M.to (L2 := [some (vR 0), some (vI ((f : Nat) : Int)), some (vI ((n : Nat) : Int)), some (vI (prF r f 0)), some (vI (prF r f 3)), some (vI (prF r f 4)), some (vI 0), none, none]) ?_ rfl rfl rfl
      refine M_aload_n (pc := 44) C dL_cuts_44 rfl (by decide) ?_
      refine M_bipush (pc := 45) C (by decide) dL_cuts_45 ?_
      refine A_cV (pc := 47) C (x := vI (ctX r s 8)) (a := 0) (c := 7) (c_X7_count (v := v) (r := r) (c := c) (s := s) (w := 8) hT hV (by omega) hs) yw_X7_count lk_L_31 rfl (congrArg Prod.fst (tt_0 hT)) hc_7 rfl dL_cuts_47 rfl (Nat.le_of_ble_eq_true rfl) (by decide) ⟨Nat.le_refl _, Nat.le_refl _⟩ ?_
      have hct_47 := hCT (w9 := 8) (by omega)
      have hck_47 : ctX r s 8 = r 0 := rfl
      refine M_istore (pc := 50) C dL_cuts_50 (by decide) ?_
      refine M.to (L2 := [some (vR 0), some (vI ((f : Nat) : Int)), some (vI ((n : Nat) : Int)), some (vI (prF r f 0)), some (vI (prF r f 3)), some (vI (prF r f 4)), some (vI 0), some (vI (ctX r s 8)), none]) ?_ rfl rfl rfl
      refine M_aload_n (pc := 52) C dL_cuts_52 rfl (by decide) ?_
      refine M_iload_n (pc := 53) C dL_cuts_53 rfl ?_
      refine M_iload_n (pc := 54) C dL_cuts_54 rfl ?_
      refine A_pV (pc := 55) C (a := 0) (c := 7) (c_X7_cut (v := v) (r := r) (P := P) (c := c) (s := s) hT hV hHV (by omega) (f := f) (n := n) (by omega) hfi (by omega)) yw_X7_cut lk_L_56 rfl (congrArg Prod.fst (tt_0 hT)) hc_7 rfl dL_cuts_55 rfl (Nat.le_of_ble_eq_true rfl) (by decide) ⟨Nat.le_refl _, Nat.le_refl _⟩ (fun r_55 v_55 p_55 => ?_)
      obtain ⟨rfl, hV_55, hHV_55, hfs_55⟩ := p_55
      refine M.to (pc := 58) (st2 := [vI (opV (cuO r f n))]) (v2 := v_55) ?_ rfl rfl rfl
      have hfr_55 : fr v v_55 := fun a ha => (hfs_55 a ha).trans (hfr_v a ha)
      have hH2 := hV_55.1
      obtain ⟨hq0, hq1, hq2, hqP⟩ := CNT.bds hV_55.2 (by omega)
      have hs62 : svN s ≤ 6 := hHV_55.2.1
      have hBI2 : ∀ {b9 w9 : Nat}, b9 < 24 → w9 < 5 → -1 ≤ biF (opR r (cuO r f n)) b9 w9 ∧ biF (opR r (cuO r f n)) b9 w9 ≤ 24 := fun h1 h2 => hH2.biB h1 h2
      have hPR2 : ∀ {f9 w9 : Nat}, f9 < 10 → ro (opR r (cuO r f n)) f9 0 = 1 → w9 < 7 → -1 ≤ prF (opR r (cuO r f n)) f9 w9 ∧ prF (opR r (cuO r f n)) f9 w9 ≤ 1000000 := fun h1 h2 h3 => hH2.prB hqP h1 h2 h3
      have hCT2 : ∀ {w9 : Nat}, w9 < 12 → 0 ≤ ctX (opR r (cuO r f n)) (svN s) w9 ∧ ctX (opR r (cuO r f n)) (svN s) w9 ≤ 1000000 := fun h => hH2.ctB ⟨by omega, by omega⟩ ⟨by omega, by omega⟩ hq2 hs62 h
      clear hq2
      refine M_iload (pc := 58) C dL_cuts_58 rfl ?_
      refine M_if_eq (pc := 60) C (tgt := 69) (by decide) dL_cuts_60 (by decide) (fun _ => ?_) (fun h => absurd h (by decide))
      refine M_iconst (pc := 69) C dL_cuts_69 ?_
      refine M_icmp_ne (pc := 70) C (tgt := 116) (by omega) (by omega) dL_cuts_70 (by decide) (fun h_70 => ?_) (fun h_70 => ?_)
      · exfalso
        omega
      · refine M_aload_n (pc := 73) C dL_cuts_73 rfl (by decide) ?_
        refine M_bipush (pc := 74) C (by decide) dL_cuts_74 ?_
        refine A_cV (pc := 76) C (x := vI (ctX (opR r (cuO r f n)) (svN s) 8)) (a := 0) (c := 7) (c_X7_count (v := v_55) (r := opR r (cuO r f n)) (c := c + 1) (s := svN s) (w := 8) hT hV_55 (by omega) hHV_55.1) yw_X7_count lk_L_31 rfl (congrArg Prod.fst (tt_0 hT)) hc_7 rfl dL_cuts_76 rfl (Nat.le_of_ble_eq_true rfl) (by decide) ⟨Nat.le_refl _, Nat.le_refl _⟩ ?_
        have hct_76 := hCT2 (w9 := 8) (by omega)
        have hck_76 : ctX (opR r (cuO r f n)) (svN s) 8 = (opR r (cuO r f n)) 0 := rfl
        refine M_iload (pc := 79) C dL_cuts_79 rfl ?_
        refine M_iload (pc := 81) C dL_cuts_81 rfl ?_
        refine M_if_eq (pc := 83) C (tgt := 90) (by decide) dL_cuts_83 (by decide) (fun _ => ?_) (fun h => absurd h (by decide))
        refine M_iconst (pc := 90) C dL_cuts_90 ?_
        refine M_iadd (pc := 91) C dL_cuts_91 ?_
        refine M_icmp_ne (pc := 92) C (tgt := 116) (by omega) (by omega) dL_cuts_92 (by decide) (fun h_92 => ?_) (fun h_92 => ?_)
        · exfalso
          omega
        · refine M_aload_n (pc := 95) C dL_cuts_95 rfl (by decide) ?_
          refine M_iload_n (pc := 96) C dL_cuts_96 rfl ?_
          refine M_iconst (pc := 97) C dL_cuts_97 ?_
          refine A_cV (pc := 98) C (x := vI (prF (opR r (cuO r f n)) f 0)) (a := 0) (c := 7) (c_X7_fileOf (v := v_55) (r := opR r (cuO r f n)) (c := c + 1) (f := f) (w := 0) hT hV_55 (by omega) hfi2 (by omega)) yw_X7_fileOf lk_L_15 rfl (congrArg Prod.fst (tt_0 hT)) hc_7 rfl dL_cuts_98 rfl (Nat.le_of_ble_eq_true rfl) (by decide) ⟨Nat.le_refl _, Nat.le_refl _⟩ ?_
          have hpr_98 := hPR2 (f9 := f) (w9 := 0) (by omega) hfi2 (by omega)
          refine M_iload (pc := 101) C dL_cuts_101 rfl ?_
          refine M_if_eq (pc := 103) C (tgt := 112) (by decide) dL_cuts_103 (by decide) (fun _ => ?_) (fun h => absurd h (by decide))
          refine M_iload_n (pc := 112) C dL_cuts_112 rfl ?_
          refine M_icmp_eq (pc := 113) C (tgt := 118) (by omega) (by omega) dL_cuts_113 (by decide) (fun h_113 => ?_) (fun h_113 => ?_)
          · refine M_iload (pc := 118) C dL_cuts_118 rfl ?_
            refine M_if_eq (pc := 120) C (tgt := 145) (by decide) dL_cuts_120 (by decide) (fun _ => ?_) (fun h => absurd h (by decide))
            refine M_iconst (pc := 145) C dL_cuts_145 ?_
            refine M_goto (pc := 146) C (tgt := 150) dL_cuts_146 (by decide) ?_
            refine M_istore (pc := 150) C dL_cuts_150 (by decide) ?_
            refine M.to (L2 := [some (vR 0), some (vI ((f : Nat) : Int)), some (vI ((n : Nat) : Int)), some (vI (prF r f 0)), some (vI (prF r f 3)), some (vI (prF r f 4)), some (vI 0), some (vI (ctX r s 8)), some (vI 1)]) ?_ rfl rfl rfl
            refine M_iload (pc := 152) C dL_cuts_152 rfl ?_
            refine M_if_eq (pc := 154) C (tgt := 179) (by decide) dL_cuts_154 (by decide) (fun h => absurd h (by decide)) (fun _ => ?_)
            refine M_aload_n (pc := 157) C dL_cuts_157 rfl (by decide) ?_
            refine M_iload_n (pc := 158) C dL_cuts_158 rfl ?_
            refine M_iconst (pc := 159) C dL_cuts_159 ?_
            refine A_cV (pc := 160) C (x := vI (prF (opR r (cuO r f n)) f 3)) (a := 0) (c := 7) (c_X7_fileOf (v := v_55) (r := opR r (cuO r f n)) (c := c + 1) (f := f) (w := 3) hT hV_55 (by omega) hfi2 (by omega)) yw_X7_fileOf lk_L_15 rfl (congrArg Prod.fst (tt_0 hT)) hc_7 rfl dL_cuts_160 rfl (Nat.le_of_ble_eq_true rfl) (by decide) ⟨Nat.le_refl _, Nat.le_refl _⟩ ?_
            have hpr_160 := hPR2 (f9 := f) (w9 := 3) (by omega) hfi2 (by omega)
            refine M_iload (pc := 163) C dL_cuts_163 rfl ?_
            refine M_icmp_ne (pc := 165) C (tgt := 183) (by omega) (by omega) dL_cuts_165 (by decide) (fun h_165 => ?_) (fun h_165 => ?_)
            · exfalso
              omega
            · refine M_aload_n (pc := 168) C dL_cuts_168 rfl (by decide) ?_
              refine M_iload_n (pc := 169) C dL_cuts_169 rfl ?_
              refine M_iconst (pc := 170) C dL_cuts_170 ?_
              refine A_cV (pc := 171) C (x := vI (prF (opR r (cuO r f n)) f 4)) (a := 0) (c := 7) (c_X7_fileOf (v := v_55) (r := opR r (cuO r f n)) (c := c + 1) (f := f) (w := 4) hT hV_55 (by omega) hfi2 (by omega)) yw_X7_fileOf lk_L_15 rfl (congrArg Prod.fst (tt_0 hT)) hc_7 rfl dL_cuts_171 rfl (Nat.le_of_ble_eq_true rfl) (by decide) ⟨Nat.le_refl _, Nat.le_refl _⟩ ?_
              have hpr_171 := hPR2 (f9 := f) (w9 := 4) (by omega) hfi2 (by omega)
              refine M_iload (pc := 174) C dL_cuts_174 rfl ?_
              refine M_icmp_ne (pc := 176) C (tgt := 183) (by omega) (by omega) dL_cuts_176 (by decide) (fun h_176 => ?_) (fun h_176 => ?_)
              · exfalso
                omega
              · refine M_iconst (pc := 179) C dL_cuts_179 ?_
                refine M_goto (pc := 180) C (tgt := 184) dL_cuts_180 (by decide) ?_
                exact M_zretP (pc := 184) C rfl (Or.inr rfl) dL_cuts_184 ⟨rfl, hV_55, hHV_55, hfr_55⟩
          · exfalso
            omega
    · rcases hq with hq | hq <;> first | (exfalso; omega; done) | skip
      refine M_iconst (pc := 37) C dL_cuts_37 ?_
      refine M_goto (pc := 38) C (tgt := 42) dL_cuts_38 (by decide) ?_
      refine M_istore (pc := 42) C dL_cuts_42 (by decide) ?_
      refine M.to (L2 := [some (vR 0), some (vI ((f : Nat) : Int)), some (vI ((n : Nat) : Int)), some (vI (prF r f 0)), some (vI (prF r f 3)), some (vI (prF r f 4)), some (vI 1), none, none]) ?_ rfl rfl rfl
      refine M_aload_n (pc := 44) C dL_cuts_44 rfl (by decide) ?_
      refine M_bipush (pc := 45) C (by decide) dL_cuts_45 ?_
      refine A_cV (pc := 47) C (x := vI (ctX r s 8)) (a := 0) (c := 7) (c_X7_count (v := v) (r := r) (c := c) (s := s) (w := 8) hT hV (by omega) hs) yw_X7_count lk_L_31 rfl (congrArg Prod.fst (tt_0 hT)) hc_7 rfl dL_cuts_47 rfl (Nat.le_of_ble_eq_true rfl) (by decide) ⟨Nat.le_refl _, Nat.le_refl _⟩ ?_
      have hct_47 := hCT (w9 := 8) (by omega)
      have hck_47 : ctX r s 8 = r 0 := rfl
      refine M_istore (pc := 50) C dL_cuts_50 (by decide) ?_
      refine M.to (L2 := [some (vR 0), some (vI ((f : Nat) : Int)), some (vI ((n : Nat) : Int)), some (vI (prF r f 0)), some (vI (prF r f 3)), some (vI (prF r f 4)), some (vI 1), some (vI (ctX r s 8)), none]) ?_ rfl rfl rfl
      refine M_aload_n (pc := 52) C dL_cuts_52 rfl (by decide) ?_
      refine M_iload_n (pc := 53) C dL_cuts_53 rfl ?_
      refine M_iload_n (pc := 54) C dL_cuts_54 rfl ?_
      refine A_pV (pc := 55) C (a := 0) (c := 7) (c_X7_cut (v := v) (r := r) (P := P) (c := c) (s := s) hT hV hHV (by omega) (f := f) (n := n) (by omega) hfi (by omega)) yw_X7_cut lk_L_56 rfl (congrArg Prod.fst (tt_0 hT)) hc_7 rfl dL_cuts_55 rfl (Nat.le_of_ble_eq_true rfl) (by decide) ⟨Nat.le_refl _, Nat.le_refl _⟩ (fun r_55 v_55 p_55 => ?_)
      obtain ⟨rfl, hV_55, hHV_55, hfs_55⟩ := p_55
      refine M.to (pc := 58) (st2 := [vI (opV (cuO r f n))]) (v2 := v_55) ?_ rfl rfl rfl
      have hfr_55 : fr v v_55 := fun a ha => (hfs_55 a ha).trans (hfr_v a ha)
      have hH2 := hV_55.1
      obtain ⟨hq0, hq1, hq2, hqP⟩ := CNT.bds hV_55.2 (by omega)
      have hs62 : svN s ≤ 6 := hHV_55.2.1
      have hBI2 : ∀ {b9 w9 : Nat}, b9 < 24 → w9 < 5 → -1 ≤ biF (opR r (cuO r f n)) b9 w9 ∧ biF (opR r (cuO r f n)) b9 w9 ≤ 24 := fun h1 h2 => hH2.biB h1 h2
      have hPR2 : ∀ {f9 w9 : Nat}, f9 < 10 → ro (opR r (cuO r f n)) f9 0 = 1 → w9 < 7 → -1 ≤ prF (opR r (cuO r f n)) f9 w9 ∧ prF (opR r (cuO r f n)) f9 w9 ≤ 1000000 := fun h1 h2 h3 => hH2.prB hqP h1 h2 h3
      have hCT2 : ∀ {w9 : Nat}, w9 < 12 → 0 ≤ ctX (opR r (cuO r f n)) (svN s) w9 ∧ ctX (opR r (cuO r f n)) (svN s) w9 ≤ 1000000 := fun h => hH2.ctB ⟨by omega, by omega⟩ ⟨by omega, by omega⟩ hq2 hs62 h
      clear hq2
      refine M_iload (pc := 58) C dL_cuts_58 rfl ?_
      refine M_if_eq (pc := 60) C (tgt := 69) (by decide) dL_cuts_60 (by decide) (fun h => absurd h (by decide)) (fun _ => ?_)
      refine M_iload_n (pc := 63) C dL_cuts_63 rfl ?_
      refine M_iload_n (pc := 64) C dL_cuts_64 rfl ?_
      refine M_isub (pc := 65) C dL_cuts_65 ?_
      refine M_goto (pc := 66) C (tgt := 70) dL_cuts_66 (by decide) ?_
      refine M_icmp_ne (pc := 70) C (tgt := 116) (by omega) (by omega) dL_cuts_70 (by decide) (fun h_70 => ?_) (fun h_70 => ?_)
      · exfalso
        omega
      · refine M_aload_n (pc := 73) C dL_cuts_73 rfl (by decide) ?_
        refine M_bipush (pc := 74) C (by decide) dL_cuts_74 ?_
        refine A_cV (pc := 76) C (x := vI (ctX (opR r (cuO r f n)) (svN s) 8)) (a := 0) (c := 7) (c_X7_count (v := v_55) (r := opR r (cuO r f n)) (c := c + 1) (s := svN s) (w := 8) hT hV_55 (by omega) hHV_55.1) yw_X7_count lk_L_31 rfl (congrArg Prod.fst (tt_0 hT)) hc_7 rfl dL_cuts_76 rfl (Nat.le_of_ble_eq_true rfl) (by decide) ⟨Nat.le_refl _, Nat.le_refl _⟩ ?_
        have hct_76 := hCT2 (w9 := 8) (by omega)
        have hck_76 : ctX (opR r (cuO r f n)) (svN s) 8 = (opR r (cuO r f n)) 0 := rfl
        refine M_iload (pc := 79) C dL_cuts_79 rfl ?_
        refine M_iload (pc := 81) C dL_cuts_81 rfl ?_
        refine M_if_eq (pc := 83) C (tgt := 90) (by decide) dL_cuts_83 (by decide) (fun h => absurd h (by decide)) (fun _ => ?_)
        refine M_iconst (pc := 86) C dL_cuts_86 ?_
        refine M_goto (pc := 87) C (tgt := 91) dL_cuts_87 (by decide) ?_
        refine M_iadd (pc := 91) C dL_cuts_91 ?_
        refine M_icmp_ne (pc := 92) C (tgt := 116) (by omega) (by omega) dL_cuts_92 (by decide) (fun h_92 => ?_) (fun h_92 => ?_)
        · exfalso
          omega
        · refine M_aload_n (pc := 95) C dL_cuts_95 rfl (by decide) ?_
          refine M_iload_n (pc := 96) C dL_cuts_96 rfl ?_
          refine M_iconst (pc := 97) C dL_cuts_97 ?_
          refine A_cV (pc := 98) C (x := vI (prF (opR r (cuO r f n)) f 0)) (a := 0) (c := 7) (c_X7_fileOf (v := v_55) (r := opR r (cuO r f n)) (c := c + 1) (f := f) (w := 0) hT hV_55 (by omega) hfi2 (by omega)) yw_X7_fileOf lk_L_15 rfl (congrArg Prod.fst (tt_0 hT)) hc_7 rfl dL_cuts_98 rfl (Nat.le_of_ble_eq_true rfl) (by decide) ⟨Nat.le_refl _, Nat.le_refl _⟩ ?_
          have hpr_98 := hPR2 (f9 := f) (w9 := 0) (by omega) hfi2 (by omega)
          refine M_iload (pc := 101) C dL_cuts_101 rfl ?_
          refine M_if_eq (pc := 103) C (tgt := 112) (by decide) dL_cuts_103 (by decide) (fun h => absurd h (by decide)) (fun _ => ?_)
          refine M_iload_n (pc := 106) C dL_cuts_106 rfl ?_
          refine M_iload_n (pc := 107) C dL_cuts_107 rfl ?_
          refine M_isub (pc := 108) C dL_cuts_108 ?_
          refine M_goto (pc := 109) C (tgt := 113) dL_cuts_109 (by decide) ?_
          refine M_icmp_eq (pc := 113) C (tgt := 118) (by omega) (by omega) dL_cuts_113 (by decide) (fun h_113 => ?_) (fun h_113 => ?_)
          · refine M_iload (pc := 118) C dL_cuts_118 rfl ?_
            refine M_if_eq (pc := 120) C (tgt := 145) (by decide) dL_cuts_120 (by decide) (fun h => absurd h (by decide)) (fun _ => ?_)
            refine M_iload_n (pc := 123) C dL_cuts_123 rfl ?_
            refine M_iload_n (pc := 124) C dL_cuts_124 rfl ?_
            refine M_isub (pc := 125) C dL_cuts_125 ?_
            refine M_bipush (pc := 126) C (by decide) dL_cuts_126 ?_
            refine M_idiv (pc := 128) C (by omega) (by decide) dL_cuts_128 ?_
            refine M_iload_n (pc := 129) C dL_cuts_129 rfl ?_
            refine M_bipush (pc := 130) C (by decide) dL_cuts_130 ?_
            refine M_idiv (pc := 132) C (by omega) (by decide) dL_cuts_132 ?_
            refine M_icmp_ne (pc := 133) C (tgt := 149) (by omega) (by omega) dL_cuts_133 (by decide) (fun h_133 => ?_) (fun h_133 => ?_)
            · refine M_iconst (pc := 149) C dL_cuts_149 ?_
              refine M_istore (pc := 150) C dL_cuts_150 (by decide) ?_
              refine M.to (L2 := [some (vR 0), some (vI ((f : Nat) : Int)), some (vI ((n : Nat) : Int)), some (vI (prF r f 0)), some (vI (prF r f 3)), some (vI (prF r f 4)), some (vI 1), some (vI (ctX r s 8)), some (vI 0)]) ?_ rfl rfl rfl
              refine M_iload (pc := 152) C dL_cuts_152 rfl ?_
              refine M_if_eq (pc := 154) C (tgt := 179) (by decide) dL_cuts_154 (by decide) (fun _ => ?_) (fun h => absurd h (by decide))
              refine M_iconst (pc := 179) C dL_cuts_179 ?_
              refine M_goto (pc := 180) C (tgt := 184) dL_cuts_180 (by decide) ?_
              exact M_zretP (pc := 184) C rfl (Or.inr rfl) dL_cuts_184 ⟨rfl, hV_55, hHV_55, hfr_55⟩
            · refine M_iload_n (pc := 136) C dL_cuts_136 rfl ?_
              refine M_iload_n (pc := 137) C dL_cuts_137 rfl ?_
              refine M_isub (pc := 138) C dL_cuts_138 ?_
              refine M_bipush (pc := 139) C (by decide) dL_cuts_139 ?_
              refine M_irem (pc := 141) C (by omega) (by decide) dL_cuts_141 ?_
              refine T_if_le (pc := 142) C (by omega) dL_cuts_142 dL_cuts_145 dL_cuts_146 dL_cuts_149 ?_
              refine M_istore (pc := 150) C dL_cuts_150 (by decide) ?_
              refine M.to (L2 := [some (vR 0), some (vI ((f : Nat) : Int)), some (vI ((n : Nat) : Int)), some (vI (prF r f 0)), some (vI (prF r f 3)), some (vI (prF r f 4)), some (vI 1), some (vI (ctX r s 8)), some (vI (Bi (decide (0 < (((prF r f 0) - ((n : Nat) : Int)) % 16)))))]) ?_ rfl rfl rfl
              refine M_iload (pc := 152) C dL_cuts_152 rfl ?_
              refine M_if_eq (pc := 154) C (tgt := 179) (Bi_i32 _) dL_cuts_154 (by decide) (fun h_154 => ?_) (fun h_154 => ?_)
              · have b_154 := Bid_eq0 h_154
                refine M_iconst (pc := 179) C dL_cuts_179 ?_
                refine M_goto (pc := 180) C (tgt := 184) dL_cuts_180 (by decide) ?_
                exact M_zretP (pc := 184) C rfl (Or.inr rfl) dL_cuts_184 ⟨rfl, hV_55, hHV_55, hfr_55⟩
              · have b_154 := Bid_ne0 h_154
                refine M_aload_n (pc := 157) C dL_cuts_157 rfl (by decide) ?_
                refine M_iload_n (pc := 158) C dL_cuts_158 rfl ?_
                refine M_iconst (pc := 159) C dL_cuts_159 ?_
                refine A_cV (pc := 160) C (x := vI (prF (opR r (cuO r f n)) f 3)) (a := 0) (c := 7) (c_X7_fileOf (v := v_55) (r := opR r (cuO r f n)) (c := c + 1) (f := f) (w := 3) hT hV_55 (by omega) hfi2 (by omega)) yw_X7_fileOf lk_L_15 rfl (congrArg Prod.fst (tt_0 hT)) hc_7 rfl dL_cuts_160 rfl (Nat.le_of_ble_eq_true rfl) (by decide) ⟨Nat.le_refl _, Nat.le_refl _⟩ ?_
                have hpr_160 := hPR2 (f9 := f) (w9 := 3) (by omega) hfi2 (by omega)
                refine M_iload (pc := 163) C dL_cuts_163 rfl ?_
                refine M_icmp_ne (pc := 165) C (tgt := 183) (by omega) (by omega) dL_cuts_165 (by decide) (fun h_165 => ?_) (fun h_165 => ?_)
                · exfalso
                  omega
                · refine M_aload_n (pc := 168) C dL_cuts_168 rfl (by decide) ?_
                  refine M_iload_n (pc := 169) C dL_cuts_169 rfl ?_
                  refine M_iconst (pc := 170) C dL_cuts_170 ?_
                  refine A_cV (pc := 171) C (x := vI (prF (opR r (cuO r f n)) f 4)) (a := 0) (c := 7) (c_X7_fileOf (v := v_55) (r := opR r (cuO r f n)) (c := c + 1) (f := f) (w := 4) hT hV_55 (by omega) hfi2 (by omega)) yw_X7_fileOf lk_L_15 rfl (congrArg Prod.fst (tt_0 hT)) hc_7 rfl dL_cuts_171 rfl (Nat.le_of_ble_eq_true rfl) (by decide) ⟨Nat.le_refl _, Nat.le_refl _⟩ ?_
                  have hpr_171 := hPR2 (f9 := f) (w9 := 4) (by omega) hfi2 (by omega)
                  refine M_iload (pc := 174) C dL_cuts_174 rfl ?_
                  refine M_icmp_ne (pc := 176) C (tgt := 183) (by omega) (by omega) dL_cuts_176 (by decide) (fun h_176 => ?_) (fun h_176 => ?_)
                  · exfalso
                    omega
                  · refine M_iconst (pc := 179) C dL_cuts_179 ?_
                    refine M_goto (pc := 180) C (tgt := 184) dL_cuts_180 (by decide) ?_
                    exact M_zretP (pc := 184) C rfl (Or.inr rfl) dL_cuts_184 ⟨rfl, hV_55, hHV_55, hfr_55⟩
          · exfalso
            omega
