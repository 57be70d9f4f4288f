set_option maxHeartbeats 8000000 in
theorem L_act {κ : KX} {nm : String} {d mc ms N q len : Nat} {T : Ty} {v : Ct} {xs : Nat → Int32} {t c : Int} {k kc nc : Nat} {Q : State → Prop} {e4 e5 e6 e7 e8 e9 e10 e11 : Option MV} (C : CX κ (mLn nm) d mc ms) (hd : 40 ≤ d) (h : PI N T v t c) (hc : c < 800000) (hkc : kc + 10 ≤ mc) (hnc : nc + 100 ≤ ms) (hX : AXk κ q len xs) (hl : len ≤ 260) (hk : k < 44) (kk : NP κ q k c kc nc Q) : M κ N T 18 (LQP q t k e4 e5 e6 e7 e8 e9 e10 e11) [] v kc nc Q := by
  obtain ⟨hT, hN, r, P, s, hV, hHV, ht, hPk⟩ := h
  have hH : DR (v 2) (v 3) (v 4) (v 5) (v 6) (v 7) (v 8) (v 9) r := hV.1
  have hC : CNT (v 1) (v 9) r c := hV.2
  have hs := hHV.1
  have hs6 := hHV.2.1
  have hfr_v : fr v v := fun _ _ => rfl
  obtain ⟨hr0, hr1, hr2, hrP⟩ := hC.bds (by omega)
  have hBI : ∀ {b9 w9 : Nat}, b9 < 24 → w9 < 5 → -1 ≤ biF r b9 w9 ∧ biF r b9 w9 ≤ 24 := fun h1 h2 => hH.biB h1 h2
  have hPR : ∀ {f9 w9 : Nat}, f9 < 10 → ro r f9 0 = 1 → w9 < 7 → -1 ≤ prF r f9 w9 ∧ prF r f9 w9 ≤ 1000000 := fun h1 h2 h3 => hH.prB hrP h1 h2 h3
  have hCT : ∀ {w9 : Nat}, w9 < 12 → 0 ≤ ctX r s w9 ∧ ctX r s w9 ≤ 1000000 := fun h => hH.ctB ⟨by omega, by omega⟩ ⟨by omega, by omega⟩ hr2 hs6 h
  clear hr2
  have htb := ht.1
  refine M_aloadA_n (pc := 18) C dL_law_18 rfl ?_
  refine M_iconst (pc := 19) C dL_law_19 ?_
  refine M_iload_n (pc := 20) C dL_law_20 rfl ?_
  refine M_imul (pc := 21) C dL_law_21 ?_
  refine M_callA (pc := 22) C hX (c_L_cell (N := N) (T := T) (v := v) (k := 2 * k) hl (by omega)) yw_L_cell lk_L_75 rfl dL_law_22 rfl (by decide) (by omega) ⟨by omega, by omega⟩ (fun r1 v1 p1 => ?_)
  obtain ⟨g, rfl, hg, e1⟩ := p1
  refine M.to (pc := 25) (st2 := [vI g]) (v2 := v) ?_ rfl rfl e1
  refine M_istore (pc := 25) C dL_law_25 (Nat.le_of_ble_eq_true rfl) ?_
  refine M.to (L2 := [some (vR (-(q : Int) - 2)), some (vR 0), some (vI t), some (vI ((k : Nat) : Int)), some (vI g), e5, e6, e7, e8, e9, e10, e11]) ?_ rfl rfl rfl
  refine M_aloadA_n (pc := 27) C dL_law_27 rfl ?_
  refine M_iconst (pc := 28) C dL_law_28 ?_
  refine M_iload_n (pc := 29) C dL_law_29 rfl ?_
  refine M_imul (pc := 30) C dL_law_30 ?_
  refine M_iconst (pc := 31) C dL_law_31 ?_
  refine M_iadd (pc := 32) C dL_law_32 ?_
  refine M_callA (pc := 33) C hX (c_L_cell (N := N) (T := T) (v := v) (k := 2 * k + 1) hl (by omega)) yw_L_cell lk_L_75 rfl dL_law_33 rfl (by decide) (by omega) ⟨by omega, by omega⟩ (fun r1 v1 p1 => ?_)
  obtain ⟨h, rfl, hh, e1⟩ := p1
  refine M.to (pc := 36) (st2 := [vI h]) (v2 := v) ?_ rfl rfl e1
  refine M_istore (pc := 36) C dL_law_36 (Nat.le_of_ble_eq_true rfl) ?_
  refine M.to (L2 := [some (vR (-(q : Int) - 2)), some (vR 0), some (vI t), some (vI ((k : Nat) : Int)), some (vI g), some (vI h), e6, e7, e8, e9, e10, e11]) ?_ rfl rfl rfl
  refine M_iload (pc := 38) C dL_law_38 rfl ?_
  refine M_iconst (pc := 40) C dL_law_40 ?_
  refine M_ishr (pc := 41) C (by omega) (by omega) dL_law_41 ?_
  refine M.to (st2 := [vI (g / 32)]) ?_ rfl rfl rfl
  refine M_bipush (pc := 42) C (by decide) dL_law_42 ?_
  refine A_cS (pc := 44) C (x := vI ((g / 32) % 2 ^ 31 % 10)) (c_L_low (v := v) (x := g / 32) (m := 10) hT (by omega) (by decide)) yw_L_low lk_L_79 rfl dL_law_44 rfl (Nat.le_of_ble_eq_true rfl) (by omega) ⟨by omega, by omega⟩ ?_
  obtain ⟨f, hfn⟩ : ∃ f : Nat, (g / 32) % 2 ^ 31 % 10 = (f : Int) := ⟨((g / 32) % 2 ^ 31 % 10).toNat, by omega⟩
  have hfb : f < 10 := by omega
  refine M.to (st2 := [vI ((f : Nat) : Int)]) ?_ rfl (by rw [hfn]) rfl
  refine M_istore (pc := 47) C dL_law_47 (Nat.le_of_ble_eq_true rfl) ?_
  refine M.to (L2 := [some (vR (-(q : Int) - 2)), some (vR 0), some (vI t), some (vI ((k : Nat) : Int)), some (vI g), some (vI h), some (vI ((f : Nat) : Int)), e7, e8, e9, e10, e11]) ?_ rfl rfl rfl
  refine M_iload (pc := 49) C dL_law_49 rfl ?_
  refine M_bipush (pc := 51) C (by decide) dL_law_51 ?_
  refine A_cS (pc := 53) C (x := vI (g % 2 ^ 31 % 20)) (c_L_low (v := v) (x := g) (m := 20) hT (by omega) (by decide)) yw_L_low lk_L_79 rfl dL_law_53 rfl (Nat.le_of_ble_eq_true rfl) (by omega) ⟨by omega, by omega⟩ ?_
  obtain ⟨w, hwn⟩ : ∃ w : Nat, g % 2 ^ 31 % 20 = (w : Int) := ⟨(g % 2 ^ 31 % 20).toNat, by omega⟩
  have hwb : w < 20 := by omega
  refine M.to (st2 := [vI ((w : Nat) : Int)]) ?_ rfl (by rw [hwn]) rfl
  refine M_istore (pc := 56) C dL_law_56 (Nat.le_of_ble_eq_true rfl) ?_
  refine M.to (L2 := [some (vR (-(q : Int) - 2)), some (vR 0), some (vI t), some (vI ((k : Nat) : Int)), some (vI g), some (vI h), some (vI ((f : Nat) : Int)), some (vI ((w : Nat) : Int)), e8, e9, e10, e11]) ?_ rfl rfl rfl
  refine M_iload (pc := 58) C dL_law_58 rfl ?_
  refine M_bipush (pc := 60) C (by decide) dL_law_60 ?_
  refine A_cS (pc := 62) C (x := vI (h % 2 ^ 31 % 24)) (c_L_low (v := v) (x := h) (m := 24) hT (by omega) (by decide)) yw_L_low lk_L_79 rfl dL_law_62 rfl (Nat.le_of_ble_eq_true rfl) (by omega) ⟨by omega, by omega⟩ ?_
  obtain ⟨b, hbn⟩ : ∃ b : Nat, h % 2 ^ 31 % 24 = (b : Int) := ⟨(h % 2 ^ 31 % 24).toNat, by omega⟩
  have hbb : b < 24 := by omega
  refine M.to (st2 := [vI ((b : Nat) : Int)]) ?_ rfl (by rw [hbn]) rfl
  refine M_istore (pc := 65) C dL_law_65 (Nat.le_of_ble_eq_true rfl) ?_
  refine M.to (L2 := [some (vR (-(q : Int) - 2)), some (vR 0), some (vI t), some (vI ((k : Nat) : Int)), some (vI g), some (vI h), some (vI ((f : Nat) : Int)), some (vI ((w : Nat) : Int)), some (vI ((b : Nat) : Int)), e9, e10, e11]) ?_ rfl rfl rfl
  refine M_iconst (pc := 67) C dL_law_67 ?_
  refine M_istore (pc := 68) C dL_law_68 (Nat.le_of_ble_eq_true rfl) ?_
  refine M.to (L2 := [some (vR (-(q : Int) - 2)), some (vR 0), some (vI t), some (vI ((k : Nat) : Int)), some (vI g), some (vI h), some (vI ((f : Nat) : Int)), some (vI ((w : Nat) : Int)), some (vI ((b : Nat) : Int)), some (vI 1), e10, e11]) ?_ rfl rfl rfl
  refine M_iload (pc := 70) C dL_law_70 rfl ?_
  refine M_bipush (pc := 72) C (by decide) dL_law_72 ?_
  refine M_icmp_lt (pc := 74) C (tgt := 81) (by omega) (by omega) dL_law_74 (by decide) (fun h_74 => ?_) (fun h_74 => ?_)
  · refine M_iload (pc := 81) C dL_law_81 rfl ?_
    refine M_iconst (pc := 83) C dL_law_83 ?_
    refine M_ishr (pc := 84) C (by omega) (by omega) dL_law_84 ?_
    refine M.to (st2 := [vI (h / 8)]) ?_ rfl rfl rfl
    refine M_iconst (pc := 85) C dL_law_85 ?_
    refine A_cS (pc := 86) C (x := vI ((h / 8) % 2 ^ 31 % 4)) (c_L_low (v := v) (x := h / 8) (m := 4) hT (by omega) (by decide)) yw_L_low lk_L_79 rfl dL_law_86 rfl (Nat.le_of_ble_eq_true rfl) (by omega) ⟨by omega, by omega⟩ ?_
    refine M_if_ne (pc := 89) C (tgt := 105) (by omega) dL_law_89 (by decide) (fun h_89 => ?_) (fun h_89 => ?_)
    · refine M_iload (pc := 105) C dL_law_105 rfl ?_
      refine M_iconst (pc := 107) C dL_law_107 ?_
      refine M_ishr (pc := 108) C (by omega) (by omega) dL_law_108 ?_
      refine M.to (st2 := [vI (h / 32)]) ?_ rfl rfl rfl
      refine M_bipush (pc := 109) C (by decide) dL_law_109 ?_
      refine A_cS (pc := 111) C (x := vI ((h / 32) % 2 ^ 31 % 40)) (c_L_low (v := v) (x := h / 32) (m := 40) hT (by omega) (by decide)) yw_L_low lk_L_79 rfl dL_law_111 rfl (Nat.le_of_ble_eq_true rfl) (by omega) ⟨by omega, by omega⟩ ?_
      obtain ⟨x, hxn⟩ : ∃ x : Nat, (h / 32) % 2 ^ 31 % 40 = (x : Int) := ⟨((h / 32) % 2 ^ 31 % 40).toNat, by omega⟩
      have hxb : x ≤ 200 := by omega
      refine M.to (st2 := [vI ((x : Nat) : Int)]) ?_ rfl (by rw [hxn]) rfl
      refine M_istore (pc := 114) C dL_law_114 (Nat.le_of_ble_eq_true rfl) ?_
      refine M.to (L2 := [some (vR (-(q : Int) - 2)), some (vR 0), some (vI t), some (vI ((k : Nat) : Int)), some (vI g), some (vI h), some (vI ((f : Nat) : Int)), some (vI ((w : Nat) : Int)), some (vI ((b : Nat) : Int)), some (vI 1), some (vI ((x : Nat) : Int)), e11]) ?_ rfl rfl rfl
      refine M_aload_n (pc := 116) C dL_law_116 rfl (by decide) ?_
      refine M_iload_n (pc := 117) C dL_law_117 rfl ?_
      refine M_iload (pc := 118) C dL_law_118 rfl ?_
      refine A_pS (pc := 120) C (c_L_comes (v := v) (r := r) (P := P) (c := c) (s := s) (t := t) (x := x) hT hV hHV (by omega) ht (by omega)) yw_L_comes lk_L_82 rfl dL_law_120 rfl (Nat.le_of_ble_eq_true rfl) (by omega) ⟨by omega, by omega⟩ (fun r_120 v_120 p_120 => ?_)
      obtain ⟨rfl, hV_120, hHV_120, -⟩ := p_120
      refine M.to (pc := 123) (st2 := [vI (crV r x)]) (v2 := v_120) ?_ rfl rfl rfl
      have hcf := hH.comeF hr0 hxb ht
      have hpw : ¬ crV r x < 0 → 0 ≤ (1 * 2 ^ (crV r x).toNat : Int) ∧ (1 * 2 ^ (crV r x).toNat : Int) < 65536 := fun _ => pw16 (by omega)
      refine M_istore (pc := 123) C dL_law_123 (Nat.le_of_ble_eq_true rfl) ?_
      refine M.to (L2 := [some (vR (-(q : Int) - 2)), some (vR 0), some (vI t), some (vI ((k : Nat) : Int)), some (vI g), some (vI h), some (vI ((f : Nat) : Int)), some (vI ((w : Nat) : Int)), some (vI ((b : Nat) : Int)), some (vI 1), some (vI ((x : Nat) : Int)), some (vI (crV r x))]) ?_ rfl rfl rfl
      refine M_iload (pc := 125) C dL_law_125 rfl ?_
      refine M_bipush (pc := 127) C (by decide) dL_law_127 ?_
      refine M_icmp_eq (pc := 129) C (tgt := 136) (by omega) (by omega) dL_law_129 (by decide) (fun h_129 => ?_) (fun h_129 => ?_)
      · exfalso
        omega
      · refine M_iconst (pc := 132) C dL_law_132 ?_
        refine M_goto (pc := 133) C (tgt := 137) dL_law_133 (by decide) ?_
        refine M_istore (pc := 137) C dL_law_137 (Nat.le_of_ble_eq_true rfl) ?_
        refine M.to (L2 := [some (vR (-(q : Int) - 2)), some (vR 0), some (vI t), some (vI ((k : Nat) : Int)), some (vI g), some (vI h), some (vI ((f : Nat) : Int)), some (vI ((w : Nat) : Int)), some (vI ((b : Nat) : Int)), some (vI 1), some (vI ((x : Nat) : Int)), some (vI (crV r x))]) ?_ rfl rfl rfl
        refine M_iload_n (pc := 139) C dL_law_139 rfl ?_
        refine M_iload (pc := 140) C dL_law_140 rfl ?_
        refine M_if_lt (pc := 142) C (tgt := 152) (by omega) dL_law_142 (by decide) (fun h_142 => ?_) (fun h_142 => ?_)
        · refine M_iconst (pc := 152) C dL_law_152 ?_
          refine M_ior (pc := 153) C (by omega) (by first | decide | exact ⟨(hpw (by omega)).1, by have := (hpw (by omega)).2; omega⟩) dL_law_153 ?_
          refine M_istore_n (pc := 154) C dL_law_154 (Nat.le_of_ble_eq_true rfl) ?_
          refine M.to (L2 := [some (vR (-(q : Int) - 2)), some (vR 0), some (vI ((t.toNat ||| (0 : Int).toNat : Nat) : Int)), some (vI ((k : Nat) : Int)), some (vI g), some (vI h), some (vI ((f : Nat) : Int)), some (vI ((w : Nat) : Int)), some (vI ((b : Nat) : Int)), some (vI 1), some (vI ((x : Nat) : Int)), some (vI (crV r x))]) ?_ rfl rfl rfl
          refine M_goto (pc := 155) C (tgt := 437) dL_law_155 (by decide) ?_
          exact kk _ _ _ ((t.toNat ||| (0 : Int).toNat : Nat) : Int) _ _ _ _ _ _ _ _ _ ⟨hT, hN, _, _, _, hV_120, hHV_120, by first | exact hcf.1 (by omega) | exact hcf.2.1 (by omega), hH.createP hPk hrP hxb⟩ (by omega) (by omega)
        · refine M_iconst (pc := 145) C dL_law_145 ?_
          refine M_iload (pc := 146) C dL_law_146 rfl ?_
          refine M_ishl (pc := 148) C (by omega) dL_law_148 ?_
          refine M_goto (pc := 149) C (tgt := 153) dL_law_149 (by decide) ?_
          refine M_ior (pc := 153) C (by omega) (by first | decide | exact ⟨(hpw (by omega)).1, by have := (hpw (by omega)).2; omega⟩) dL_law_153 ?_
          refine M_istore_n (pc := 154) C dL_law_154 (Nat.le_of_ble_eq_true rfl) ?_
          refine M.to (L2 := [some (vR (-(q : Int) - 2)), some (vR 0), some (vI ((t.toNat ||| (1 * 2 ^ (crV r x).toNat : Int).toNat : Nat) : Int)), some (vI ((k : Nat) : Int)), some (vI g), some (vI h), some (vI ((f : Nat) : Int)), some (vI ((w : Nat) : Int)), some (vI ((b : Nat) : Int)), some (vI 1), some (vI ((x : Nat) : Int)), some (vI (crV r x))]) ?_ rfl rfl rfl
          refine M_goto (pc := 155) C (tgt := 437) dL_law_155 (by decide) ?_
          exact kk _ _ _ ((t.toNat ||| (1 * 2 ^ (crV r x).toNat : Int).toNat : Nat) : Int) _ _ _ _ _ _ _ _ _ ⟨hT, hN, _, _, _, hV_120, hHV_120, by first | exact hcf.1 (by omega) | exact hcf.2.1 (by omega), hH.createP hPk hrP hxb⟩ (by omega) (by omega)
    · refine M_iload (pc := 92) C dL_law_92 rfl ?_
      refine M_iconst (pc := 94) C dL_law_94 ?_
      refine M_ishr (pc := 95) C (by omega) (by omega) dL_law_95 ?_
      refine M.to (st2 := [vI (h / 32)]) ?_ rfl rfl rfl
      refine M_sipush (pc := 96) C (by decide) dL_law_96 ?_
      refine A_cS (pc := 99) C (x := vI ((h / 32) % 2 ^ 31 % 201)) (c_L_low (v := v) (x := h / 32) (m := 201) hT (by omega) (by decide)) yw_L_low lk_L_79 rfl dL_law_99 rfl (Nat.le_of_ble_eq_true rfl) (by omega) ⟨by omega, by omega⟩ ?_
      refine M_goto (pc := 102) C (tgt := 114) dL_law_102 (by decide) ?_
      obtain ⟨x, hxn⟩ : ∃ x : Nat, (h / 32) % 2 ^ 31 % 201 = (x : Int) := ⟨((h / 32) % 2 ^ 31 % 201).toNat, by omega⟩
      have hxb : x ≤ 200 := by omega
      refine M.to (st2 := [vI ((x : Nat) : Int)]) ?_ rfl (by rw [hxn]) rfl
      refine M_istore (pc := 114) C dL_law_114 (Nat.le_of_ble_eq_true rfl) ?_
      refine M.to (L2 := [some (vR (-(q : Int) - 2)), some (vR 0), some (vI t), some (vI ((k : Nat) : Int)), some (vI g), some (vI h), some (vI ((f : Nat) : Int)), some (vI ((w : Nat) : Int)), some (vI ((b : Nat) : Int)), some (vI 1), some (vI ((x : Nat) : Int)), e11]) ?_ rfl rfl rfl
      refine M_aload_n (pc := 116) C dL_law_116 rfl (by decide) ?_
      refine M_iload_n (pc := 117) C dL_law_117 rfl ?_
      refine M_iload (pc := 118) C dL_law_118 rfl ?_
      refine A_pS (pc := 120) C (c_L_comes (v := v) (r := r) (P := P) (c := c) (s := s) (t := t) (x := x) hT hV hHV (by omega) ht (by omega)) yw_L_comes lk_L_82 rfl dL_law_120 rfl (Nat.le_of_ble_eq_true rfl) (by omega) ⟨by omega, by omega⟩ (fun r_120 v_120 p_120 => ?_)
      obtain ⟨rfl, hV_120, hHV_120, -⟩ := p_120
      refine M.to (pc := 123) (st2 := [vI (crV r x)]) (v2 := v_120) ?_ rfl rfl rfl
      have hcf := hH.comeF hr0 hxb ht
      have hpw : ¬ crV r x < 0 → 0 ≤ (1 * 2 ^ (crV r x).toNat : Int) ∧ (1 * 2 ^ (crV r x).toNat : Int) < 65536 := fun _ => pw16 (by omega)
      refine M_istore (pc := 123) C dL_law_123 (Nat.le_of_ble_eq_true rfl) ?_
      refine M.to (L2 := [some (vR (-(q : Int) - 2)), some (vR 0), some (vI t), some (vI ((k : Nat) : Int)), some (vI g), some (vI h), some (vI ((f : Nat) : Int)), some (vI ((w : Nat) : Int)), some (vI ((b : Nat) : Int)), some (vI 1), some (vI ((x : Nat) : Int)), some (vI (crV r x))]) ?_ rfl rfl rfl
      refine M_iload (pc := 125) C dL_law_125 rfl ?_
      refine M_bipush (pc := 127) C (by decide) dL_law_127 ?_
      refine M_icmp_eq (pc := 129) C (tgt := 136) (by omega) (by omega) dL_law_129 (by decide) (fun h_129 => ?_) (fun h_129 => ?_)
      · exfalso
        omega
      · refine M_iconst (pc := 132) C dL_law_132 ?_
        refine M_goto (pc := 133) C (tgt := 137) dL_law_133 (by decide) ?_
        refine M_istore (pc := 137) C dL_law_137 (Nat.le_of_ble_eq_true rfl) ?_
        refine M.to (L2 := [some (vR (-(q : Int) - 2)), some (vR 0), some (vI t), some (vI ((k : Nat) : Int)), some (vI g), some (vI h), some (vI ((f : Nat) : Int)), some (vI ((w : Nat) : Int)), some (vI ((b : Nat) : Int)), some (vI 1), some (vI ((x : Nat) : Int)), some (vI (crV r x))]) ?_ rfl rfl rfl
        refine M_iload_n (pc := 139) C dL_law_139 rfl ?_
        refine M_iload (pc := 140) C dL_law_140 rfl ?_
        refine M_if_lt (pc := 142) C (tgt := 152) (by omega) dL_law_142 (by decide) (fun h_142 => ?_) (fun h_142 => ?_)
        · refine M_iconst (pc := 152) C dL_law_152 ?_
          refine M_ior (pc := 153) C (by omega) (by first | decide | exact ⟨(hpw (by omega)).1, by have := (hpw (by omega)).2; omega⟩) dL_law_153 ?_
          refine M_istore_n (pc := 154) C dL_law_154 (Nat.le_of_ble_eq_true rfl) ?_
          refine M.to (L2 := [some (vR (-(q : Int) - 2)), some (vR 0), some (vI ((t.toNat ||| (0 : Int).toNat : Nat) : Int)), some (vI ((k : Nat) : Int)), some (vI g), some (vI h), some (vI ((f : Nat) : Int)), some (vI ((w : Nat) : Int)), some (vI ((b : Nat) : Int)), some (vI 1), some (vI ((x : Nat) : Int)), some (vI (crV r x))]) ?_ rfl rfl rfl
          refine M_goto (pc := 155) C (tgt := 437) dL_law_155 (by decide) ?_
          exact kk _ _ _ ((t.toNat ||| (0 : Int).toNat : Nat) : Int) _ _ _ _ _ _ _ _ _ ⟨hT, hN, _, _, _, hV_120, hHV_120, by first | exact hcf.1 (by omega) | exact hcf.2.1 (by omega), hH.createP hPk hrP hxb⟩ (by omega) (by omega)
        · refine M_iconst (pc := 145) C dL_law_145 ?_
          refine M_iload (pc := 146) C dL_law_146 rfl ?_
          refine M_ishl (pc := 148) C (by omega) dL_law_148 ?_
          refine M_goto (pc := 149) C (tgt := 153) dL_law_149 (by decide) ?_
          refine M_ior (pc := 153) C (by omega) (by first | decide | exact ⟨(hpw (by omega)).1, by have := (hpw (by omega)).2; omega⟩) dL_law_153 ?_
          refine M_istore_n (pc := 154) C dL_law_154 (Nat.le_of_ble_eq_true rfl) ?_
          refine M.to (L2 := [some (vR (-(q : Int) - 2)), some (vR 0), some (vI ((t.toNat ||| (1 * 2 ^ (crV r x).toNat : Int).toNat : Nat) : Int)), some (vI ((k : Nat) : Int)), some (vI g), some (vI h), some (vI ((f : Nat) : Int)), some (vI ((w : Nat) : Int)), some (vI ((b : Nat) : Int)), some (vI 1), some (vI ((x : Nat) : Int)), some (vI (crV r x))]) ?_ rfl rfl rfl
          refine M_goto (pc := 155) C (tgt := 437) dL_law_155 (by decide) ?_
          exact kk _ _ _ ((t.toNat ||| (1 * 2 ^ (crV r x).toNat : Int).toNat : Nat) : Int) _ _ _ _ _ _ _ _ _ ⟨hT, hN, _, _, _, hV_120, hHV_120, by first | exact hcf.1 (by omega) | exact hcf.2.1 (by omega), hH.createP hPk hrP hxb⟩ (by omega) (by omega)
  · refine M_iload_n (pc := 77) C dL_law_77 rfl ?_
    refine M_if_ne (pc := 78) C (tgt := 158) (by omega) dL_law_78 (by decide) (fun h_78 => ?_) (fun h_78 => ?_)
    · refine M_iload (pc := 158) C dL_law_158 rfl ?_
      refine M_bipush (pc := 160) C (by decide) dL_law_160 ?_
      refine M_icmp_ge (pc := 162) C (tgt := 220) (by omega) (by omega) dL_law_162 (by decide) (fun h_162 => ?_) (fun h_162 => ?_)
      · refine M_iload (pc := 220) C dL_law_220 rfl ?_
        refine M_bipush (pc := 222) C (by decide) dL_law_222 ?_
        refine M_icmp_ge (pc := 224) C (tgt := 282) (by omega) (by omega) dL_law_224 (by decide) (fun h_224 => ?_) (fun h_224 => ?_)
        · refine M_iload (pc := 282) C dL_law_282 rfl ?_
          refine M_bipush (pc := 284) C (by decide) dL_law_284 ?_
          refine M_icmp_ne (pc := 286) C (tgt := 339) (by omega) (by omega) dL_law_286 (by decide) (fun h_286 => ?_) (fun h_286 => ?_)
          · refine M_iload (pc := 339) C dL_law_339 rfl ?_
            refine M_bipush (pc := 341) C (by decide) dL_law_341 ?_
            refine M_icmp_ne (pc := 343) C (tgt := 394) (by omega) (by omega) dL_law_343 (by decide) (fun h_343 => ?_) (fun h_343 => ?_)
            · refine M_iload (pc := 394) C dL_law_394 rfl ?_
              refine M_bipush (pc := 396) C (by decide) dL_law_396 ?_
              refine M_icmp_ne (pc := 398) C (tgt := 424) (by omega) (by omega) dL_law_398 (by decide) (fun h_398 => ?_) (fun h_398 => ?_)
              · refine M_iload (pc := 424) C dL_law_424 rfl ?_
                refine M_bipush (pc := 426) C (by decide) dL_law_426 ?_
                refine M_icmp_le (pc := 428) C (tgt := 437) (by omega) (by omega) dL_law_428 (by decide) (fun h_428 => ?_) (fun h_428 => ?_)
                · exact kk _ _ _ t _ _ _ _ _ _ _ _ _ ⟨hT, hN, r, P, s, hV.mono (by omega), hHV.mono (by omega), ht, hPk⟩ (by omega) (by omega)
                · refine M_aload_n (pc := 431) C dL_law_431 rfl (by decide) ?_
                  refine A_pS (pc := 432) C (c_L_packs (v := v) (r := r) (P := P) (c := c) (s := s) hT hV hHV (by omega)) yw_L_packs lk_L_102 rfl dL_law_432 rfl (Nat.le_of_ble_eq_true rfl) (by omega) ⟨by omega, by omega⟩ (fun r_432 v_432 p_432 => ?_)
                  obtain ⟨rfl, hV_432, hHV_432, -⟩ := p_432
                  refine M.to (pc := 435) (st2 := [vI 1]) (v2 := v_432) ?_ rfl rfl rfl
                  refine M_istore (pc := 435) C dL_law_435 (Nat.le_of_ble_eq_true rfl) ?_
                  refine M.to (L2 := [some (vR (-(q : Int) - 2)), some (vR 0), some (vI t), some (vI ((k : Nat) : Int)), some (vI g), some (vI h), some (vI ((f : Nat) : Int)), some (vI ((w : Nat) : Int)), some (vI ((b : Nat) : Int)), some (vI 1), e10, e11]) ?_ rfl rfl rfl
                  exact kk _ _ _ t _ _ _ _ _ _ _ _ _ ⟨hT, hN, _, _, _, hV_432, hHV_432, ht.congr (hH.packQ hr1).2.2.1, hH.packP hPk hrP⟩ (by omega) (by omega)
              · refine M_aload_n (pc := 401) C dL_law_401 rfl (by decide) ?_
                refine M_iload (pc := 402) C dL_law_402 rfl ?_
                refine M_iconst (pc := 404) C dL_law_404 ?_
                refine A_cV (pc := 405) C (x := vI (biF r b 0)) (a := 0) (c := 7) (c_X7_blockOf (v := v) (r := r) (c := c) (b := b) (w := 0) hT hV (by omega) (by omega)) yw_X7_blockOf lk_L_24 rfl (congrArg Prod.fst (tt_0 hT)) hc_7 rfl dL_law_405 rfl (Nat.le_of_ble_eq_true rfl) (by omega) ⟨by omega, by omega⟩ ?_
                have hbi_405 := hBI (b9 := b) (w9 := 0) (by omega) (by omega)
                refine M_iconst (pc := 408) C dL_law_408 ?_
                refine M_icmp_eq (pc := 409) C (tgt := 424) (by omega) (by omega) dL_law_409 (by decide) (fun h_409 => ?_) (fun h_409 => ?_)
                · refine M_iload (pc := 424) C dL_law_424 rfl ?_
                  refine M_bipush (pc := 426) C (by decide) dL_law_426 ?_
                  refine M_icmp_le (pc := 428) C (tgt := 437) (by omega) (by omega) dL_law_428 (by decide) (fun h_428 => ?_) (fun h_428 => ?_)
                  · exact kk _ _ _ t _ _ _ _ _ _ _ _ _ ⟨hT, hN, r, P, s, hV.mono (by omega), hHV.mono (by omega), ht, hPk⟩ (by omega) (by omega)
                  · refine M_aload_n (pc := 431) C dL_law_431 rfl (by decide) ?_
                    refine A_pS (pc := 432) C (c_L_packs (v := v) (r := r) (P := P) (c := c) (s := s) hT hV hHV (by omega)) yw_L_packs lk_L_102 rfl dL_law_432 rfl (Nat.le_of_ble_eq_true rfl) (by omega) ⟨by omega, by omega⟩ (fun r_432 v_432 p_432 => ?_)
                    obtain ⟨rfl, hV_432, hHV_432, -⟩ := p_432
                    refine M.to (pc := 435) (st2 := [vI 1]) (v2 := v_432) ?_ rfl rfl rfl
                    refine M_istore (pc := 435) C dL_law_435 (Nat.le_of_ble_eq_true rfl) ?_
                    refine M.to (L2 := [some (vR (-(q : Int) - 2)), some (vR 0), some (vI t), some (vI ((k : Nat) : Int)), some (vI g), some (vI h), some (vI ((f : Nat) : Int)), some (vI ((w : Nat) : Int)), some (vI ((b : Nat) : Int)), some (vI 1), e10, e11]) ?_ rfl rfl rfl
                    exact kk _ _ _ t _ _ _ _ _ _ _ _ _ ⟨hT, hN, _, _, _, hV_432, hHV_432, ht.congr (hH.packQ hr1).2.2.1, hH.packP hPk hrP⟩ (by omega) (by omega)
                · have h3 : r (3 + b) ≠ 3 := h_409
                  refine M_aload_n (pc := 412) C dL_law_412 rfl (by decide) ?_
                  refine M_iload_n (pc := 413) C dL_law_413 rfl ?_
                  refine M_iload (pc := 414) C dL_law_414 rfl ?_
                  refine M_callS (pc := 416) C (c_L_spoils (v := v) (r := r) (c := c) (P := P) (s := s) (t := t) (b := b) hT hV hHV (by omega) hN ht (by omega) h3) yw_L_spoils lk_L_99 rfl dL_law_416 rfl (Nat.le_of_ble_eq_true rfl) (by omega) ⟨by omega, by omega⟩ (fun r1 v1 p1 => ?_)
                  obtain ⟨rfl, hV_416, hHV_416⟩ := p1
                  refine M_istore (pc := 419) C dL_law_419 (Nat.le_of_ble_eq_true rfl) ?_
                  refine M.to (L2 := [some (vR (-(q : Int) - 2)), some (vR 0), some (vI t), some (vI ((k : Nat) : Int)), some (vI g), some (vI h), some (vI ((f : Nat) : Int)), some (vI ((w : Nat) : Int)), some (vI ((b : Nat) : Int)), some (vI 1), e10, e11]) ?_ rfl rfl rfl
                  refine M_goto (pc := 421) C (tgt := 437) dL_law_421 (by decide) ?_
                  exact kk _ _ _ t _ _ _ _ _ _ _ _ _ ⟨hT.nw hN, by omega, _, _, _, hV_416.mono (by omega), hHV_416.mono (by omega), ht.congr (hH.splQ hbb h3).2.2.2.1, hH.splP hPk hbb⟩ (by omega) (by omega)
            · refine M_aload_n (pc := 346) C dL_law_346 rfl (by decide) ?_
              refine M_bipush (pc := 347) C (by decide) dL_law_347 ?_
              refine A_cV (pc := 349) C (x := vI (ctX r s 10)) (a := 0) (c := 7) (c_X7_count (v := v) (r := r) (c := c) (s := s) (w := 10) hT hV (by omega) hs) yw_X7_count lk_L_31 rfl (congrArg Prod.fst (tt_0 hT)) hc_7 rfl dL_law_349 rfl (Nat.le_of_ble_eq_true rfl) (by omega) ⟨by omega, by omega⟩ ?_
              have hct_349 := hCT (w9 := 10) (by omega)
              have hck_349 : ctX r s 10 = r 2 := rfl
              refine M_istore (pc := 352) C dL_law_352 (Nat.le_of_ble_eq_true rfl) ?_
              refine M.to (L2 := [some (vR (-(q : Int) - 2)), some (vR 0), some (vI t), some (vI ((k : Nat) : Int)), some (vI g), some (vI h), some (vI ((f : Nat) : Int)), some (vI ((w : Nat) : Int)), some (vI ((b : Nat) : Int)), some (vI 1), some (vI (ctX r s 10)), e11]) ?_ rfl rfl rfl
              refine M_aload_n (pc := 354) C dL_law_354 rfl (by decide) ?_
              refine M_iload (pc := 355) C dL_law_355 rfl ?_
              refine M_iconst (pc := 357) C dL_law_357 ?_
              refine A_cS (pc := 358) C (x := vI (h % 2 ^ 31 % 2)) (c_L_low (v := v) (x := h) (m := 2) hT (by omega) (by decide)) yw_L_low lk_L_79 rfl dL_law_358 rfl (Nat.le_of_ble_eq_true rfl) (by omega) ⟨by omega, by omega⟩ ?_
              refine A_pV (pc := 361) C (a := 0) (c := 7) (c_X7_set (v := v) (r := r) (P := P) (c := c) (s := s) hT hV hHV (by omega) (x := h % 2 ^ 31 % 2) (by omega)) yw_X7_set lk_L_96 rfl (congrArg Prod.fst (tt_0 hT)) hc_7 rfl dL_law_361 rfl (Nat.le_of_ble_eq_true rfl) (by omega) ⟨by omega, by omega⟩ (fun r_361 v_361 p_361 => ?_)
              obtain ⟨rfl, hV_361, hHV_361, hfs_361⟩ := p_361
              refine M.to (pc := 364) (st2 := [vI (r 2)]) (v2 := v_361) ?_ rfl rfl rfl
              have hfr_361 : fr v v_361 := fun a ha => (hfs_361 a ha).trans (hfr_v a ha)
              have hH2 := hV_361.1
              obtain ⟨hq0, hq1, hq2, hqP⟩ := CNT.bds hV_361.2 (by omega)
              have hs62 : svN s ≤ 6 := hHV_361.2.1
              have hBI2 : ∀ {b9 w9 : Nat}, b9 < 24 → w9 < 5 → -1 ≤ biF (rs r 2 (h % 2 ^ 31 % 2)) b9 w9 ∧ biF (rs r 2 (h % 2 ^ 31 % 2)) b9 w9 ≤ 24 := fun h1 h2 => hH2.biB h1 h2
              have hPR2 : ∀ {f9 w9 : Nat}, f9 < 10 → ro (rs r 2 (h % 2 ^ 31 % 2)) f9 0 = 1 → w9 < 7 → -1 ≤ prF (rs r 2 (h % 2 ^ 31 % 2)) f9 w9 ∧ prF (rs r 2 (h % 2 ^ 31 % 2)) f9 w9 ≤ 1000000 := fun h1 h2 h3 => hH2.prB hqP h1 h2 h3
              have hCT2 : ∀ {w9 : Nat}, w9 < 12 → 0 ≤ ctX (rs r 2 (h % 2 ^ 31 % 2)) (svN s) w9 ∧ ctX (rs r 2 (h % 2 ^ 31 % 2)) (svN s) w9 ≤ 1000000 := fun h => hH2.ctB ⟨by omega, by omega⟩ ⟨by omega, by omega⟩ hq2 hs62 h
              clear hq2
              have hr22 : rs r 2 (h % 2 ^ 31 % 2) 2 = h % 2 ^ 31 % 2 := rs_eq _ _ _
              refine M_iload (pc := 364) C dL_law_364 rfl ?_
              refine M_icmp_ne (pc := 366) C (tgt := 388) (by omega) (by omega) dL_law_366 (by decide) (fun h_366 => ?_) (fun h_366 => ?_)
              · exfalso
                omega
              · refine M_aload_n (pc := 369) C dL_law_369 rfl (by decide) ?_
                refine M_bipush (pc := 370) C (by decide) dL_law_370 ?_
                refine A_cV (pc := 372) C (x := vI (ctX (rs r 2 (h % 2 ^ 31 % 2)) (svN s) 10)) (a := 0) (c := 7) (c_X7_count (v := v_361) (r := rs r 2 (h % 2 ^ 31 % 2)) (c := c) (s := svN s) (w := 10) hT hV_361 (by omega) hHV_361.1) yw_X7_count lk_L_31 rfl (congrArg Prod.fst (tt_0 hT)) hc_7 rfl dL_law_372 rfl (Nat.le_of_ble_eq_true rfl) (by omega) ⟨by omega, by omega⟩ ?_
                have hct_372 := hCT2 (w9 := 10) (by omega)
                have hck_372 : ctX (rs r 2 (h % 2 ^ 31 % 2)) (svN s) 10 = (rs r 2 (h % 2 ^ 31 % 2)) 2 := rfl
                refine M_iload (pc := 375) C dL_law_375 rfl ?_
                refine M_iconst (pc := 377) C dL_law_377 ?_
                refine A_cS (pc := 378) C (x := vI (h % 2 ^ 31 % 2)) (c_L_low (v := v_361) (x := h) (m := 2) hT (by omega) (by decide)) yw_L_low lk_L_79 rfl dL_law_378 rfl (Nat.le_of_ble_eq_true rfl) (by omega) ⟨by omega, by omega⟩ ?_
                refine M_icmp_ne (pc := 381) C (tgt := 388) (by omega) (by omega) dL_law_381 (by decide) (fun h_381 => ?_) (fun h_381 => ?_)
                · exfalso
                  omega
                · refine M_iconst (pc := 384) C dL_law_384 ?_
                  refine M_goto (pc := 385) C (tgt := 389) dL_law_385 (by decide) ?_
                  refine M_istore (pc := 389) C dL_law_389 (Nat.le_of_ble_eq_true rfl) ?_
                  refine M.to (L2 := [some (vR (-(q : Int) - 2)), some (vR 0), some (vI t), some (vI ((k : Nat) : Int)), some (vI g), some (vI h), some (vI ((f : Nat) : Int)), some (vI ((w : Nat) : Int)), some (vI ((b : Nat) : Int)), some (vI 1), some (vI (ctX r s 10)), e11]) ?_ rfl rfl rfl
                  refine M_goto (pc := 391) C (tgt := 437) dL_law_391 (by decide) ?_
                  exact kk _ _ _ t _ _ _ _ _ _ _ _ _ ⟨hT, hN, _, _, _, hV_361.mono (by omega), hHV_361.mono (by omega), ht.congr (fun g _ => rs_ne (by omega) _), hPk.set⟩ (by omega) (by omega)
          · refine M_iload_n (pc := 289) C dL_law_289 rfl ?_
            refine M_iload (pc := 290) C dL_law_290 rfl ?_
            refine A_cS (pc := 292) C (x := vI (Bi (btB t f))) (c_L_has (v := v) (t := t) (f := f) hT (by omega) (by omega)) yw_L_has lk_L_9 rfl dL_law_292 rfl (Nat.le_of_ble_eq_true rfl) (by omega) ⟨by omega, by omega⟩ ?_
            refine M_if_eq (pc := 295) C (tgt := 339) (Bi_i32 _) dL_law_295 (by decide) (fun h_295 => ?_) (fun h_295 => ?_)
            · have b_295 := Bi_eq0 h_295
              have hnf : ¬ ro r f 0 = 1 := fun q => by rw [ht.bt hfb, decide_eq_true q] at b_295; cases b_295
              refine M_iload (pc := 339) C dL_law_339 rfl ?_
              refine M_bipush (pc := 341) C (by decide) dL_law_341 ?_
              refine M_icmp_ne (pc := 343) C (tgt := 394) (by omega) (by omega) dL_law_343 (by decide) (fun h_343 => ?_) (fun h_343 => ?_)
              · refine M_iload (pc := 394) C dL_law_394 rfl ?_
                refine M_bipush (pc := 396) C (by decide) dL_law_396 ?_
                refine M_icmp_ne (pc := 398) C (tgt := 424) (by omega) (by omega) dL_law_398 (by decide) (fun h_398 => ?_) (fun h_398 => ?_)
                · refine M_iload (pc := 424) C dL_law_424 rfl ?_
                  refine M_bipush (pc := 426) C (by decide) dL_law_426 ?_
                  refine M_icmp_le (pc := 428) C (tgt := 437) (by omega) (by omega) dL_law_428 (by decide) (fun h_428 => ?_) (fun h_428 => ?_)
                  · exact kk _ _ _ t _ _ _ _ _ _ _ _ _ ⟨hT, hN, r, P, s, hV.mono (by omega), hHV.mono (by omega), ht, hPk⟩ (by omega) (by omega)
                  · refine M_aload_n (pc := 431) C dL_law_431 rfl (by decide) ?_
                    refine A_pS (pc := 432) C (c_L_packs (v := v) (r := r) (P := P) (c := c) (s := s) hT hV hHV (by omega)) yw_L_packs lk_L_102 rfl dL_law_432 rfl (Nat.le_of_ble_eq_true rfl) (by omega) ⟨by omega, by omega⟩ (fun r_432 v_432 p_432 => ?_)
                    obtain ⟨rfl, hV_432, hHV_432, -⟩ := p_432
                    refine M.to (pc := 435) (st2 := [vI 1]) (v2 := v_432) ?_ rfl rfl rfl
                    refine M_istore (pc := 435) C dL_law_435 (Nat.le_of_ble_eq_true rfl) ?_
                    refine M.to (L2 := [some (vR (-(q : Int) - 2)), some (vR 0), some (vI t), some (vI ((k : Nat) : Int)), some (vI g), some (vI h), some (vI ((f : Nat) : Int)), some (vI ((w : Nat) : Int)), some (vI ((b : Nat) : Int)), some (vI 1), e10, e11]) ?_ rfl rfl rfl
                    exact kk _ _ _ t _ _ _ _ _ _ _ _ _ ⟨hT, hN, _, _, _, hV_432, hHV_432, ht.congr (hH.packQ hr1).2.2.1, hH.packP hPk hrP⟩ (by omega) (by omega)
                · refine M_aload_n (pc := 401) C dL_law_401 rfl (by decide) ?_
                  refine M_iload (pc := 402) C dL_law_402 rfl ?_
                  refine M_iconst (pc := 404) C dL_law_404 ?_
                  refine A_cV (pc := 405) C (x := vI (biF r b 0)) (a := 0) (c := 7) (c_X7_blockOf (v := v) (r := r) (c := c) (b := b) (w := 0) hT hV (by omega) (by omega)) yw_X7_blockOf lk_L_24 rfl (congrArg Prod.fst (tt_0 hT)) hc_7 rfl dL_law_405 rfl (Nat.le_of_ble_eq_true rfl) (by omega) ⟨by omega, by omega⟩ ?_
                  have hbi_405 := hBI (b9 := b) (w9 := 0) (by omega) (by omega)
                  refine M_iconst (pc := 408) C dL_law_408 ?_
                  refine M_icmp_eq (pc := 409) C (tgt := 424) (by omega) (by omega) dL_law_409 (by decide) (fun h_409 => ?_) (fun h_409 => ?_)
                  · refine M_iload (pc := 424) C dL_law_424 rfl ?_
                    refine M_bipush (pc := 426) C (by decide) dL_law_426 ?_
                    refine M_icmp_le (pc := 428) C (tgt := 437) (by omega) (by omega) dL_law_428 (by decide) (fun h_428 => ?_) (fun h_428 => ?_)
                    · exact kk _ _ _ t _ _ _ _ _ _ _ _ _ ⟨hT, hN, r, P, s, hV.mono (by omega), hHV.mono (by omega), ht, hPk⟩ (by omega) (by omega)
                    · refine M_aload_n (pc := 431) C dL_law_431 rfl (by decide) ?_
                      refine A_pS (pc := 432) C (c_L_packs (v := v) (r := r) (P := P) (c := c) (s := s) hT hV hHV (by omega)) yw_L_packs lk_L_102 rfl dL_law_432 rfl (Nat.le_of_ble_eq_true rfl) (by omega) ⟨by omega, by omega⟩ (fun r_432 v_432 p_432 => ?_)
                      obtain ⟨rfl, hV_432, hHV_432, -⟩ := p_432
                      refine M.to (pc := 435) (st2 := [vI 1]) (v2 := v_432) ?_ rfl rfl rfl
                      refine M_istore (pc := 435) C dL_law_435 (Nat.le_of_ble_eq_true rfl) ?_
                      refine M.to (L2 := [some (vR (-(q : Int) - 2)), some (vR 0), some (vI t), some (vI ((k : Nat) : Int)), some (vI g), some (vI h), some (vI ((f : Nat) : Int)), some (vI ((w : Nat) : Int)), some (vI ((b : Nat) : Int)), some (vI 1), e10, e11]) ?_ rfl rfl rfl
                      exact kk _ _ _ t _ _ _ _ _ _ _ _ _ ⟨hT, hN, _, _, _, hV_432, hHV_432, ht.congr (hH.packQ hr1).2.2.1, hH.packP hPk hrP⟩ (by omega) (by omega)
                  · have h3 : r (3 + b) ≠ 3 := h_409
                    refine M_aload_n (pc := 412) C dL_law_412 rfl (by decide) ?_
                    refine M_iload_n (pc := 413) C dL_law_413 rfl ?_
                    refine M_iload (pc := 414) C dL_law_414 rfl ?_
                    refine M_callS (pc := 416) C (c_L_spoils (v := v) (r := r) (c := c) (P := P) (s := s) (t := t) (b := b) hT hV hHV (by omega) hN ht (by omega) h3) yw_L_spoils lk_L_99 rfl dL_law_416 rfl (Nat.le_of_ble_eq_true rfl) (by omega) ⟨by omega, by omega⟩ (fun r1 v1 p1 => ?_)
                    obtain ⟨rfl, hV_416, hHV_416⟩ := p1
                    refine M_istore (pc := 419) C dL_law_419 (Nat.le_of_ble_eq_true rfl) ?_
                    refine M.to (L2 := [some (vR (-(q : Int) - 2)), some (vR 0), some (vI t), some (vI ((k : Nat) : Int)), some (vI g), some (vI h), some (vI ((f : Nat) : Int)), some (vI ((w : Nat) : Int)), some (vI ((b : Nat) : Int)), some (vI 1), e10, e11]) ?_ rfl rfl rfl
                    refine M_goto (pc := 421) C (tgt := 437) dL_law_421 (by decide) ?_
                    exact kk _ _ _ t _ _ _ _ _ _ _ _ _ ⟨hT.nw hN, by omega, _, _, _, hV_416.mono (by omega), hHV_416.mono (by omega), ht.congr (hH.splQ hbb h3).2.2.2.1, hH.splP hPk hbb⟩ (by omega) (by omega)
              · refine M_aload_n (pc := 346) C dL_law_346 rfl (by decide) ?_
                refine M_bipush (pc := 347) C (by decide) dL_law_347 ?_
                refine A_cV (pc := 349) C (x := vI (ctX r s 10)) (a := 0) (c := 7) (c_X7_count (v := v) (r := r) (c := c) (s := s) (w := 10) hT hV (by omega) hs) yw_X7_count lk_L_31 rfl (congrArg Prod.fst (tt_0 hT)) hc_7 rfl dL_law_349 rfl (Nat.le_of_ble_eq_true rfl) (by omega) ⟨by omega, by omega⟩ ?_
                have hct_349 := hCT (w9 := 10) (by omega)
                have hck_349 : ctX r s 10 = r 2 := rfl
                refine M_istore (pc := 352) C dL_law_352 (Nat.le_of_ble_eq_true rfl) ?_
                refine M.to (L2 := [some (vR (-(q : Int) - 2)), some (vR 0), some (vI t), some (vI ((k : Nat) : Int)), some (vI g), some (vI h), some (vI ((f : Nat) : Int)), some (vI ((w : Nat) : Int)), some (vI ((b : Nat) : Int)), some (vI 1), some (vI (ctX r s 10)), e11]) ?_ rfl rfl rfl
                refine M_aload_n (pc := 354) C dL_law_354 rfl (by decide) ?_
                refine M_iload (pc := 355) C dL_law_355 rfl ?_
                refine M_iconst (pc := 357) C dL_law_357 ?_
                refine A_cS (pc := 358) C (x := vI (h % 2 ^ 31 % 2)) (c_L_low (v := v) (x := h) (m := 2) hT (by omega) (by decide)) yw_L_low lk_L_79 rfl dL_law_358 rfl (Nat.le_of_ble_eq_true rfl) (by omega) ⟨by omega, by omega⟩ ?_
                refine A_pV (pc := 361) C (a := 0) (c := 7) (c_X7_set (v := v) (r := r) (P := P) (c := c) (s := s) hT hV hHV (by omega) (x := h % 2 ^ 31 % 2) (by omega)) yw_X7_set lk_L_96 rfl (congrArg Prod.fst (tt_0 hT)) hc_7 rfl dL_law_361 rfl (Nat.le_of_ble_eq_true rfl) (by omega) ⟨by omega, by omega⟩ (fun r_361 v_361 p_361 => ?_)
                obtain ⟨rfl, hV_361, hHV_361, hfs_361⟩ := p_361
                refine M.to (pc := 364) (st2 := [vI (r 2)]) (v2 := v_361) ?_ rfl rfl rfl
                have hfr_361 : fr v v_361 := fun a ha => (hfs_361 a ha).trans (hfr_v a ha)
                have hH2 := hV_361.1
                obtain ⟨hq0, hq1, hq2, hqP⟩ := CNT.bds hV_361.2 (by omega)
                have hs62 : svN s ≤ 6 := hHV_361.2.1
                have hBI2 : ∀ {b9 w9 : Nat}, b9 < 24 → w9 < 5 → -1 ≤ biF (rs r 2 (h % 2 ^ 31 % 2)) b9 w9 ∧ biF (rs r 2 (h % 2 ^ 31 % 2)) b9 w9 ≤ 24 := fun h1 h2 => hH2.biB h1 h2
                have hPR2 : ∀ {f9 w9 : Nat}, f9 < 10 → ro (rs r 2 (h % 2 ^ 31 % 2)) f9 0 = 1 → w9 < 7 → -1 ≤ prF (rs r 2 (h % 2 ^ 31 % 2)) f9 w9 ∧ prF (rs r 2 (h % 2 ^ 31 % 2)) f9 w9 ≤ 1000000 := fun h1 h2 h3 => hH2.prB hqP h1 h2 h3
                have hCT2 : ∀ {w9 : Nat}, w9 < 12 → 0 ≤ ctX (rs r 2 (h % 2 ^ 31 % 2)) (svN s) w9 ∧ ctX (rs r 2 (h % 2 ^ 31 % 2)) (svN s) w9 ≤ 1000000 := fun h => hH2.ctB ⟨by omega, by omega⟩ ⟨by omega, by omega⟩ hq2 hs62 h
                clear hq2
                have hr22 : rs r 2 (h % 2 ^ 31 % 2) 2 = h % 2 ^ 31 % 2 := rs_eq _ _ _
                refine M_iload (pc := 364) C dL_law_364 rfl ?_
                refine M_icmp_ne (pc := 366) C (tgt := 388) (by omega) (by omega) dL_law_366 (by decide) (fun h_366 => ?_) (fun h_366 => ?_)
                · exfalso
                  omega
                · refine M_aload_n (pc := 369) C dL_law_369 rfl (by decide) ?_
                  refine M_bipush (pc := 370) C (by decide) dL_law_370 ?_
                  refine A_cV (pc := 372) C (x := vI (ctX (rs r 2 (h % 2 ^ 31 % 2)) (svN s) 10)) (a := 0) (c := 7) (c_X7_count (v := v_361) (r := rs r 2 (h % 2 ^ 31 % 2)) (c := c) (s := svN s) (w := 10) hT hV_361 (by omega) hHV_361.1) yw_X7_count lk_L_31 rfl (congrArg Prod.fst (tt_0 hT)) hc_7 rfl dL_law_372 rfl (Nat.le_of_ble_eq_true rfl) (by omega) ⟨by omega, by omega⟩ ?_
                  have hct_372 := hCT2 (w9 := 10) (by omega)
                  have hck_372 : ctX (rs r 2 (h % 2 ^ 31 % 2)) (svN s) 10 = (rs r 2 (h % 2 ^ 31 % 2)) 2 := rfl
                  refine M_iload (pc := 375) C dL_law_375 rfl ?_
                  refine M_iconst (pc := 377) C dL_law_377 ?_
                  refine A_cS (pc := 378) C (x := vI (h % 2 ^ 31 % 2)) (c_L_low (v := v_361) (x := h) (m := 2) hT (by omega) (by decide)) yw_L_low lk_L_79 rfl dL_law_378 rfl (Nat.le_of_ble_eq_true rfl) (by omega) ⟨by omega, by omega⟩ ?_
                  refine M_icmp_ne (pc := 381) C (tgt := 388) (by omega) (by omega) dL_law_381 (by decide) (fun h_381 => ?_) (fun h_381 => ?_)
                  · exfalso
                    omega
                  · refine M_iconst (pc := 384) C dL_law_384 ?_
                    refine M_goto (pc := 385) C (tgt := 389) dL_law_385 (by decide) ?_
                    refine M_istore (pc := 389) C dL_law_389 (Nat.le_of_ble_eq_true rfl) ?_
                    refine M.to (L2 := [some (vR (-(q : Int) - 2)), some (vR 0), some (vI t), some (vI ((k : Nat) : Int)), some (vI g), some (vI h), some (vI ((f : Nat) : Int)), some (vI ((w : Nat) : Int)), some (vI ((b : Nat) : Int)), some (vI 1), some (vI (ctX r s 10)), e11]) ?_ rfl rfl rfl
                    refine M_goto (pc := 391) C (tgt := 437) dL_law_391 (by decide) ?_
                    exact kk _ _ _ t _ _ _ _ _ _ _ _ _ ⟨hT, hN, _, _, _, hV_361.mono (by omega), hHV_361.mono (by omega), ht.congr (fun g _ => rs_ne (by omega) _), hPk.set⟩ (by omega) (by omega)
            · have b_295 := Bi_ne0 h_295
              have hfi : ro r f 0 = 1 := by rw [ht.bt hfb] at b_295; exact of_decide_eq_true b_295
              refine M_aload_n (pc := 298) C dL_law_298 rfl (by decide) ?_
              refine M_iconst (pc := 299) C dL_law_299 ?_
              refine A_cV (pc := 300) C (x := vI (ctX r s 1)) (a := 0) (c := 7) (c_X7_count (v := v) (r := r) (c := c) (s := s) (w := 1) hT hV (by omega) hs) yw_X7_count lk_L_31 rfl (congrArg Prod.fst (tt_0 hT)) hc_7 rfl dL_law_300 rfl (Nat.le_of_ble_eq_true rfl) (by omega) ⟨by omega, by omega⟩ ?_
              have hct_300 := hCT (w9 := 1) (by omega)
              have hck_300 : ctX r s 1 = cntK r 0 := rfl
              refine M_istore (pc := 303) C dL_law_303 (Nat.le_of_ble_eq_true rfl) ?_
              refine M.to (L2 := [some (vR (-(q : Int) - 2)), some (vR 0), some (vI t), some (vI ((k : Nat) : Int)), some (vI g), some (vI h), some (vI ((f : Nat) : Int)), some (vI ((w : Nat) : Int)), some (vI ((b : Nat) : Int)), some (vI 1), some (vI (ctX r s 1)), e11]) ?_ rfl rfl rfl
              refine M_aload_n (pc := 305) C dL_law_305 rfl (by decide) ?_
              refine M_iload (pc := 306) C dL_law_306 rfl ?_
              refine A_pV (pc := 308) C (a := 0) (c := 7) (c_X7_delete (v := v) (r := r) (P := P) (c := c) (s := s) hT hV hHV (by omega) (f := f) (by omega) hfi) yw_X7_delete lk_L_93 rfl (congrArg Prod.fst (tt_0 hT)) hc_7 rfl dL_law_308 rfl (Nat.le_of_ble_eq_true rfl) (by omega) ⟨by omega, by omega⟩ (fun r_308 v_308 p_308 => ?_)
              obtain ⟨rfl, hV_308, hHV_308, hfs_308⟩ := p_308
              refine M.to (pc := 311) (st2 := [vI (dlV r f)]) (v2 := v_308) ?_ rfl rfl rfl
              have hfr_308 : fr v v_308 := fun a ha => (hfs_308 a ha).trans (hfr_v a ha)
              have hH2 := hV_308.1
              obtain ⟨hq0, hq1, hq2, hqP⟩ := CNT.bds hV_308.2 (by omega)
              have hs62 : svN s ≤ 6 := hHV_308.2.1
              have hBI2 : ∀ {b9 w9 : Nat}, b9 < 24 → w9 < 5 → -1 ≤ biF (dlR r f) b9 w9 ∧ biF (dlR r f) b9 w9 ≤ 24 := fun h1 h2 => hH2.biB h1 h2
              have hPR2 : ∀ {f9 w9 : Nat}, f9 < 10 → ro (dlR r f) f9 0 = 1 → w9 < 7 → -1 ≤ prF (dlR r f) f9 w9 ∧ prF (dlR r f) f9 w9 ≤ 1000000 := fun h1 h2 h3 => hH2.prB hqP h1 h2 h3
              have hCT2 : ∀ {w9 : Nat}, w9 < 12 → 0 ≤ ctX (dlR r f) (svN s) w9 ∧ ctX (dlR r f) (svN s) w9 ≤ 1000000 := fun h => hH2.ctB ⟨by omega, by omega⟩ ⟨by omega, by omega⟩ hq2 hs62 h
              clear hq2
              have hdl := hH.delF hfb hfi
              have hdc := cntK_bd r 0
              have hdc2 := cntK_bd (dlR r f) 0
              refine M_aload_n (pc := 311) C dL_law_311 rfl (by decide) ?_
              refine M_iconst (pc := 312) C dL_law_312 ?_
              refine A_cV (pc := 313) C (x := vI (ctX (dlR r f) (svN s) 1)) (a := 0) (c := 7) (c_X7_count (v := v_308) (r := dlR r f) (c := c + 1) (s := svN s) (w := 1) hT hV_308 (by omega) hHV_308.1) yw_X7_count lk_L_31 rfl (congrArg Prod.fst (tt_0 hT)) hc_7 rfl dL_law_313 rfl (Nat.le_of_ble_eq_true rfl) (by omega) ⟨by omega, by omega⟩ ?_
              have hct_313 := hCT2 (w9 := 1) (by omega)
              have hck_313 : ctX (dlR r f) (svN s) 1 = cntK (dlR r f) 0 := rfl
              refine M_iload (pc := 316) C dL_law_316 rfl ?_
              refine M_isub (pc := 318) C dL_law_318 ?_
              refine M_icmp_ne (pc := 319) C (tgt := 326) (by omega) (by omega) dL_law_319 (by decide) (fun h_319 => ?_) (fun h_319 => ?_)
              · exfalso
                omega
              · refine M_iconst (pc := 322) C dL_law_322 ?_
                refine M_goto (pc := 323) C (tgt := 327) dL_law_323 (by decide) ?_
                refine M_istore (pc := 327) C dL_law_327 (Nat.le_of_ble_eq_true rfl) ?_
                refine M.to (L2 := [some (vR (-(q : Int) - 2)), some (vR 0), some (vI t), some (vI ((k : Nat) : Int)), some (vI g), some (vI h), some (vI ((f : Nat) : Int)), some (vI ((w : Nat) : Int)), some (vI ((b : Nat) : Int)), some (vI 1), some (vI (ctX r s 1)), e11]) ?_ rfl rfl rfl
                refine M_iload_n (pc := 329) C dL_law_329 rfl ?_
                refine M_iconst (pc := 330) C dL_law_330 ?_
                refine M_iload (pc := 331) C dL_law_331 rfl ?_
                refine M_ishl (pc := 333) C (by omega) dL_law_333 ?_
                refine M_isub (pc := 334) C dL_law_334 ?_
                refine M_istore_n (pc := 335) C dL_law_335 (Nat.le_of_ble_eq_true rfl) ?_
                refine M.to (L2 := [some (vR (-(q : Int) - 2)), some (vR 0), some (vI (t - (1 * 2 ^ (((f : Nat) : Int)).toNat : Int))), some (vI ((k : Nat) : Int)), some (vI g), some (vI h), some (vI ((f : Nat) : Int)), some (vI ((w : Nat) : Int)), some (vI ((b : Nat) : Int)), some (vI 1), some (vI (ctX r s 1)), e11]) ?_ rfl rfl rfl
                refine M_goto (pc := 336) C (tgt := 437) dL_law_336 (by decide) ?_
                exact kk _ _ _ (t - (1 * 2 ^ (((f : Nat) : Int)).toNat : Int)) _ _ _ _ _ _ _ _ _ ⟨hT, hN, _, _, _, hV_308, hHV_308, ht.sub hfb hfi hdl.2.2.1 hdl.2.2.2, hH.delP hPk hfb hfi⟩ (by omega) (by omega)
        · refine M_iload_n (pc := 227) C dL_law_227 rfl ?_
          refine M_iload (pc := 228) C dL_law_228 rfl ?_
          refine A_cS (pc := 230) C (x := vI (Bi (btB t f))) (c_L_has (v := v) (t := t) (f := f) hT (by omega) (by omega)) yw_L_has lk_L_9 rfl dL_law_230 rfl (Nat.le_of_ble_eq_true rfl) (by omega) ⟨by omega, by omega⟩ ?_
          refine M_if_eq (pc := 233) C (tgt := 272) (Bi_i32 _) dL_law_233 (by decide) (fun h_233 => ?_) (fun h_233 => ?_)
          · have b_233 := Bi_eq0 h_233
            have hnf : ¬ ro r f 0 = 1 := fun q => by rw [ht.bt hfb, decide_eq_true q] at b_233; cases b_233
            refine M_iconst (pc := 272) C dL_law_272 ?_
            refine M_goto (pc := 273) C (tgt := 277) dL_law_273 (by decide) ?_
            refine M_istore (pc := 277) C dL_law_277 (Nat.le_of_ble_eq_true rfl) ?_
            refine M.to (L2 := [some (vR (-(q : Int) - 2)), some (vR 0), some (vI t), some (vI ((k : Nat) : Int)), some (vI g), some (vI h), some (vI ((f : Nat) : Int)), some (vI ((w : Nat) : Int)), some (vI ((b : Nat) : Int)), some (vI 1), e10, e11]) ?_ rfl rfl rfl
            refine M_goto (pc := 279) C (tgt := 437) dL_law_279 (by decide) ?_
            exact kk _ _ _ t _ _ _ _ _ _ _ _ _ ⟨hT, hN, r, P, s, hV.mono (by omega), hHV.mono (by omega), ht, hPk⟩ (by omega) (by omega)
          · have b_233 := Bi_ne0 h_233
            have hfi : ro r f 0 = 1 := by rw [ht.bt hfb] at b_233; exact of_decide_eq_true b_233
            refine M_aload_n (pc := 236) C dL_law_236 rfl (by decide) ?_
            refine M_iload (pc := 237) C dL_law_237 rfl ?_
            refine M_iconst (pc := 239) C dL_law_239 ?_
            refine M_iload (pc := 240) C dL_law_240 rfl ?_
            refine M_iload (pc := 242) C dL_law_242 rfl ?_
            refine M_bipush (pc := 244) C (by decide) dL_law_244 ?_
            refine M_ishr (pc := 246) C (by omega) (by omega) dL_law_246 ?_
            refine M.to (st2 := [vI (h / 512), vI h, vI 1, vI ((f : Nat) : Int), vR 0]) ?_ rfl rfl rfl
            refine M_iconst (pc := 247) C dL_law_247 ?_
            refine A_cS (pc := 248) C (x := vI ((h / 512) % 2 ^ 31 % 5)) (c_L_low (v := v) (x := h / 512) (m := 5) hT (by omega) (by decide)) yw_L_low lk_L_79 rfl dL_law_248 rfl (Nat.le_of_ble_eq_true rfl) (by omega) ⟨by omega, by omega⟩ ?_
            refine M_if_ne (pc := 251) C (tgt := 260) (by omega) dL_law_251 (by decide) (fun h_251 => ?_) (fun h_251 => ?_)
            · refine M_bipush (pc := 260) C (by decide) dL_law_260 ?_
              refine A_cS (pc := 262) C (x := vI (h % 2 ^ 31 % 20)) (c_L_low (v := v) (x := h) (m := 20) hT (by omega) (by decide)) yw_L_low lk_L_79 rfl dL_law_262 rfl (Nat.le_of_ble_eq_true rfl) (by omega) ⟨by omega, by omega⟩ ?_
              refine M_iadd (pc := 265) C dL_law_265 ?_
              obtain ⟨n, hnn⟩ : ∃ n : Nat, 1 + (h % 2 ^ 31 % 20) = (n : Int) := ⟨(1 + (h % 2 ^ 31 % 20)).toNat, by omega⟩
              have hnb : n ≤ 200 := by omega
              refine M.to (st2 := [vI ((n : Nat) : Int), vI ((f : Nat) : Int), vR 0]) ?_ rfl (by rw [hnn]) rfl
              refine A_pS (pc := 266) C (c_L_cuts (v := v) (r := r) (P := P) (c := c) (s := s) (f := f) (n := n) hT hV hHV (by omega) (by omega) hfi (by omega)) yw_L_cuts lk_L_90 rfl dL_law_266 rfl (Nat.le_of_ble_eq_true rfl) (by omega) ⟨by omega, by omega⟩ (fun r_266 v_266 p_266 => ?_)
              obtain ⟨rfl, hV_266, hHV_266, -⟩ := p_266
              refine M.to (pc := 269) (st2 := [vI 1]) (v2 := v_266) ?_ rfl rfl rfl
              refine M_if_eq (pc := 269) C (tgt := 276) (by decide) dL_law_269 (by decide) (fun h => absurd h (by decide)) (fun _ => ?_)
              refine M_iconst (pc := 272) C dL_law_272 ?_
              refine M_goto (pc := 273) C (tgt := 277) dL_law_273 (by decide) ?_
              refine M_istore (pc := 277) C dL_law_277 (Nat.le_of_ble_eq_true rfl) ?_
              refine M.to (L2 := [some (vR (-(q : Int) - 2)), some (vR 0), some (vI t), some (vI ((k : Nat) : Int)), some (vI g), some (vI h), some (vI ((f : Nat) : Int)), some (vI ((w : Nat) : Int)), some (vI ((b : Nat) : Int)), some (vI 1), e10, e11]) ?_ rfl rfl rfl
              refine M_goto (pc := 279) C (tgt := 437) dL_law_279 (by decide) ?_
              exact kk _ _ _ t _ _ _ _ _ _ _ _ _ ⟨hT, hN, _, _, _, hV_266, hHV_266, ht.congr (hH.cutQ hr0 hfb hfi (by omega)).1, hH.cutP hPk hrP hfb hfi (by omega)⟩ (by omega) (by omega)
            · refine M_sipush (pc := 254) C (by decide) dL_law_254 ?_
              refine M_goto (pc := 257) C (tgt := 262) dL_law_257 (by decide) ?_
              refine A_cS (pc := 262) C (x := vI (h % 2 ^ 31 % 200)) (c_L_low (v := v) (x := h) (m := 200) hT (by omega) (by decide)) yw_L_low lk_L_79 rfl dL_law_262 rfl (Nat.le_of_ble_eq_true rfl) (by omega) ⟨by omega, by omega⟩ ?_
              refine M_iadd (pc := 265) C dL_law_265 ?_
              obtain ⟨n, hnn⟩ : ∃ n : Nat, 1 + (h % 2 ^ 31 % 200) = (n : Int) := ⟨(1 + (h % 2 ^ 31 % 200)).toNat, by omega⟩
              have hnb : n ≤ 200 := by omega
              refine M.to (st2 := [vI ((n : Nat) : Int), vI ((f : Nat) : Int), vR 0]) ?_ rfl (by rw [hnn]) rfl
              refine A_pS (pc := 266) C (c_L_cuts (v := v) (r := r) (P := P) (c := c) (s := s) (f := f) (n := n) hT hV hHV (by omega) (by omega) hfi (by omega)) yw_L_cuts lk_L_90 rfl dL_law_266 rfl (Nat.le_of_ble_eq_true rfl) (by omega) ⟨by omega, by omega⟩ (fun r_266 v_266 p_266 => ?_)
              obtain ⟨rfl, hV_266, hHV_266, -⟩ := p_266
              refine M.to (pc := 269) (st2 := [vI 1]) (v2 := v_266) ?_ rfl rfl rfl
              refine M_if_eq (pc := 269) C (tgt := 276) (by decide) dL_law_269 (by decide) (fun h => absurd h (by decide)) (fun _ => ?_)
              refine M_iconst (pc := 272) C dL_law_272 ?_
              refine M_goto (pc := 273) C (tgt := 277) dL_law_273 (by decide) ?_
              refine M_istore (pc := 277) C dL_law_277 (Nat.le_of_ble_eq_true rfl) ?_
              refine M.to (L2 := [some (vR (-(q : Int) - 2)), some (vR 0), some (vI t), some (vI ((k : Nat) : Int)), some (vI g), some (vI h), some (vI ((f : Nat) : Int)), some (vI ((w : Nat) : Int)), some (vI ((b : Nat) : Int)), some (vI 1), e10, e11]) ?_ rfl rfl rfl
              refine M_goto (pc := 279) C (tgt := 437) dL_law_279 (by decide) ?_
              exact kk _ _ _ t _ _ _ _ _ _ _ _ _ ⟨hT, hN, _, _, _, hV_266, hHV_266, ht.congr (hH.cutQ hr0 hfb hfi (by omega)).1, hH.cutP hPk hrP hfb hfi (by omega)⟩ (by omega) (by omega)
      · refine M_iload_n (pc := 165) C dL_law_165 rfl ?_
        refine M_iload (pc := 166) C dL_law_166 rfl ?_
        refine A_cS (pc := 168) C (x := vI (Bi (btB t f))) (c_L_has (v := v) (t := t) (f := f) hT (by omega) (by omega)) yw_L_has lk_L_9 rfl dL_law_168 rfl (Nat.le_of_ble_eq_true rfl) (by omega) ⟨by omega, by omega⟩ ?_
        refine M_if_eq (pc := 171) C (tgt := 210) (Bi_i32 _) dL_law_171 (by decide) (fun h_171 => ?_) (fun h_171 => ?_)
        · have b_171 := Bi_eq0 h_171
          have hnf : ¬ ro r f 0 = 1 := fun q => by rw [ht.bt hfb, decide_eq_true q] at b_171; cases b_171
          refine M_iconst (pc := 210) C dL_law_210 ?_
          refine M_goto (pc := 211) C (tgt := 215) dL_law_211 (by decide) ?_
          refine M_istore (pc := 215) C dL_law_215 (Nat.le_of_ble_eq_true rfl) ?_
          refine M.to (L2 := [some (vR (-(q : Int) - 2)), some (vR 0), some (vI t), some (vI ((k : Nat) : Int)), some (vI g), some (vI h), some (vI ((f : Nat) : Int)), some (vI ((w : Nat) : Int)), some (vI ((b : Nat) : Int)), some (vI 1), e10, e11]) ?_ rfl rfl rfl
          refine M_goto (pc := 217) C (tgt := 437) dL_law_217 (by decide) ?_
          exact kk _ _ _ t _ _ _ _ _ _ _ _ _ ⟨hT, hN, r, P, s, hV.mono (by omega), hHV.mono (by omega), ht, hPk⟩ (by omega) (by omega)
        · have b_171 := Bi_ne0 h_171
          have hfi : ro r f 0 = 1 := by rw [ht.bt hfb] at b_171; exact of_decide_eq_true b_171
          refine M_aload_n (pc := 174) C dL_law_174 rfl (by decide) ?_
          refine M_iload (pc := 175) C dL_law_175 rfl ?_
          refine M_iconst (pc := 177) C dL_law_177 ?_
          refine M_iload (pc := 178) C dL_law_178 rfl ?_
          refine M_iload (pc := 180) C dL_law_180 rfl ?_
          refine M_bipush (pc := 182) C (by decide) dL_law_182 ?_
          refine M_ishr (pc := 184) C (by omega) (by omega) dL_law_184 ?_
          refine M.to (st2 := [vI (h / 512), vI h, vI 1, vI ((f : Nat) : Int), vR 0]) ?_ rfl rfl rfl
          refine M_iconst (pc := 185) C dL_law_185 ?_
          refine A_cS (pc := 186) C (x := vI ((h / 512) % 2 ^ 31 % 5)) (c_L_low (v := v) (x := h / 512) (m := 5) hT (by omega) (by decide)) yw_L_low lk_L_79 rfl dL_law_186 rfl (Nat.le_of_ble_eq_true rfl) (by omega) ⟨by omega, by omega⟩ ?_
          refine M_if_ne (pc := 189) C (tgt := 198) (by omega) dL_law_189 (by decide) (fun h_189 => ?_) (fun h_189 => ?_)
          · refine M_bipush (pc := 198) C (by decide) dL_law_198 ?_
            refine A_cS (pc := 200) C (x := vI (h % 2 ^ 31 % 20)) (c_L_low (v := v) (x := h) (m := 20) hT (by omega) (by decide)) yw_L_low lk_L_79 rfl dL_law_200 rfl (Nat.le_of_ble_eq_true rfl) (by omega) ⟨by omega, by omega⟩ ?_
            refine M_iadd (pc := 203) C dL_law_203 ?_
            obtain ⟨n, hnn⟩ : ∃ n : Nat, 1 + (h % 2 ^ 31 % 20) = (n : Int) := ⟨(1 + (h % 2 ^ 31 % 20)).toNat, by omega⟩
            have hnb : n ≤ 200 := by omega
            refine M.to (st2 := [vI ((n : Nat) : Int), vI ((f : Nat) : Int), vR 0]) ?_ rfl (by rw [hnn]) rfl
            refine A_pS (pc := 204) C (c_L_grows (v := v) (r := r) (P := P) (c := c) (s := s) (f := f) (n := n) hT hV hHV (by omega) (by omega) hfi (by omega)) yw_L_grows lk_L_86 rfl dL_law_204 rfl (Nat.le_of_ble_eq_true rfl) (by omega) ⟨by omega, by omega⟩ (fun r_204 v_204 p_204 => ?_)
            obtain ⟨rfl, hV_204, hHV_204, -⟩ := p_204
            refine M.to (pc := 207) (st2 := [vI 1]) (v2 := v_204) ?_ rfl rfl rfl
            refine M_if_eq (pc := 207) C (tgt := 214) (by decide) dL_law_207 (by decide) (fun h => absurd h (by decide)) (fun _ => ?_)
            refine M_iconst (pc := 210) C dL_law_210 ?_
            refine M_goto (pc := 211) C (tgt := 215) dL_law_211 (by decide) ?_
            refine M_istore (pc := 215) C dL_law_215 (Nat.le_of_ble_eq_true rfl) ?_
            refine M.to (L2 := [some (vR (-(q : Int) - 2)), some (vR 0), some (vI t), some (vI ((k : Nat) : Int)), some (vI g), some (vI h), some (vI ((f : Nat) : Int)), some (vI ((w : Nat) : Int)), some (vI ((b : Nat) : Int)), some (vI 1), e10, e11]) ?_ rfl rfl rfl
            refine M_goto (pc := 217) C (tgt := 437) dL_law_217 (by decide) ?_
            exact kk _ _ _ t _ _ _ _ _ _ _ _ _ ⟨hT, hN, _, _, _, hV_204, hHV_204, ht.congr (hH.growQ hr0 hrP hfb hfi (by omega)).1, hH.growP hPk hrP hfb hfi (by omega)⟩ (by omega) (by omega)
          · refine M_sipush (pc := 192) C (by decide) dL_law_192 ?_
            refine M_goto (pc := 195) C (tgt := 200) dL_law_195 (by decide) ?_
            refine A_cS (pc := 200) C (x := vI (h % 2 ^ 31 % 200)) (c_L_low (v := v) (x := h) (m := 200) hT (by omega) (by decide)) yw_L_low lk_L_79 rfl dL_law_200 rfl (Nat.le_of_ble_eq_true rfl) (by omega) ⟨by omega, by omega⟩ ?_
            refine M_iadd (pc := 203) C dL_law_203 ?_
            obtain ⟨n, hnn⟩ : ∃ n : Nat, 1 + (h % 2 ^ 31 % 200) = (n : Int) := ⟨(1 + (h % 2 ^ 31 % 200)).toNat, by omega⟩
            have hnb : n ≤ 200 := by omega
            refine M.to (st2 := [vI ((n : Nat) : Int), vI ((f : Nat) : Int), vR 0]) ?_ rfl (by rw [hnn]) rfl
            refine A_pS (pc := 204) C (c_L_grows (v := v) (r := r) (P := P) (c := c) (s := s) (f := f) (n := n) hT hV hHV (by omega) (by omega) hfi (by omega)) yw_L_grows lk_L_86 rfl dL_law_204 rfl (Nat.le_of_ble_eq_true rfl) (by omega) ⟨by omega, by omega⟩ (fun r_204 v_204 p_204 => ?_)
            obtain ⟨rfl, hV_204, hHV_204, -⟩ := p_204
            refine M.to (pc := 207) (st2 := [vI 1]) (v2 := v_204) ?_ rfl rfl rfl
            refine M_if_eq (pc := 207) C (tgt := 214) (by decide) dL_law_207 (by decide) (fun h => absurd h (by decide)) (fun _ => ?_)
            refine M_iconst (pc := 210) C dL_law_210 ?_
            refine M_goto (pc := 211) C (tgt := 215) dL_law_211 (by decide) ?_
            refine M_istore (pc := 215) C dL_law_215 (Nat.le_of_ble_eq_true rfl) ?_
            refine M.to (L2 := [some (vR (-(q : Int) - 2)), some (vR 0), some (vI t), some (vI ((k : Nat) : Int)), some (vI g), some (vI h), some (vI ((f : Nat) : Int)), some (vI ((w : Nat) : Int)), some (vI ((b : Nat) : Int)), some (vI 1), e10, e11]) ?_ rfl rfl rfl
            refine M_goto (pc := 217) C (tgt := 437) dL_law_217 (by decide) ?_
            exact kk _ _ _ t _ _ _ _ _ _ _ _ _ ⟨hT, hN, _, _, _, hV_204, hHV_204, ht.congr (hH.growQ hr0 hrP hfb hfi (by omega)).1, hH.growP hPk hrP hfb hfi (by omega)⟩ (by omega) (by omega)
    · refine M_iload (pc := 81) C dL_law_81 rfl ?_
      refine M_iconst (pc := 83) C dL_law_83 ?_
      refine M_ishr (pc := 84) C (by omega) (by omega) dL_law_84 ?_
      refine M.to (st2 := [vI (h / 8)]) ?_ rfl rfl rfl
      refine M_iconst (pc := 85) C dL_law_85 ?_
      refine A_cS (pc := 86) C (x := vI ((h / 8) % 2 ^ 31 % 4)) (c_L_low (v := v) (x := h / 8) (m := 4) hT (by omega) (by decide)) yw_L_low lk_L_79 rfl dL_law_86 rfl (Nat.le_of_ble_eq_true rfl) (by omega) ⟨by omega, by omega⟩ ?_
      refine M_if_ne (pc := 89) C (tgt := 105) (by omega) dL_law_89 (by decide) (fun h_89 => ?_) (fun h_89 => ?_)
      · refine M_iload (pc := 105) C dL_law_105 rfl ?_
        refine M_iconst (pc := 107) C dL_law_107 ?_
        refine M_ishr (pc := 108) C (by omega) (by omega) dL_law_108 ?_
        refine M.to (st2 := [vI (h / 32)]) ?_ rfl rfl rfl
        refine M_bipush (pc := 109) C (by decide) dL_law_109 ?_
        refine A_cS (pc := 111) C (x := vI ((h / 32) % 2 ^ 31 % 40)) (c_L_low (v := v) (x := h / 32) (m := 40) hT (by omega) (by decide)) yw_L_low lk_L_79 rfl dL_law_111 rfl (Nat.le_of_ble_eq_true rfl) (by omega) ⟨by omega, by omega⟩ ?_
        obtain ⟨x, hxn⟩ : ∃ x : Nat, (h / 32) % 2 ^ 31 % 40 = (x : Int) := ⟨((h / 32) % 2 ^ 31 % 40).toNat, by omega⟩
        have hxb : x ≤ 200 := by omega
        refine M.to (st2 := [vI ((x : Nat) : Int)]) ?_ rfl (by rw [hxn]) rfl
        refine M_istore (pc := 114) C dL_law_114 (Nat.le_of_ble_eq_true rfl) ?_
        refine M.to (L2 := [some (vR (-(q : Int) - 2)), some (vR 0), some (vI t), some (vI ((k : Nat) : Int)), some (vI g), some (vI h), some (vI ((f : Nat) : Int)), some (vI ((w : Nat) : Int)), some (vI ((b : Nat) : Int)), some (vI 1), some (vI ((x : Nat) : Int)), e11]) ?_ rfl rfl rfl
        refine M_aload_n (pc := 116) C dL_law_116 rfl (by decide) ?_
        refine M_iload_n (pc := 117) C dL_law_117 rfl ?_
        refine M_iload (pc := 118) C dL_law_118 rfl ?_
        refine A_pS (pc := 120) C (c_L_comes (v := v) (r := r) (P := P) (c := c) (s := s) (t := t) (x := x) hT hV hHV (by omega) ht (by omega)) yw_L_comes lk_L_82 rfl dL_law_120 rfl (Nat.le_of_ble_eq_true rfl) (by omega) ⟨by omega, by omega⟩ (fun r_120 v_120 p_120 => ?_)
        obtain ⟨rfl, hV_120, hHV_120, -⟩ := p_120
        refine M.to (pc := 123) (st2 := [vI (crV r x)]) (v2 := v_120) ?_ rfl rfl rfl
        have hcf := hH.comeF hr0 hxb ht
        have hpw : ¬ crV r x < 0 → 0 ≤ (1 * 2 ^ (crV r x).toNat : Int) ∧ (1 * 2 ^ (crV r x).toNat : Int) < 65536 := fun _ => pw16 (by omega)
        refine M_istore (pc := 123) C dL_law_123 (Nat.le_of_ble_eq_true rfl) ?_
        refine M.to (L2 := [some (vR (-(q : Int) - 2)), some (vR 0), some (vI t), some (vI ((k : Nat) : Int)), some (vI g), some (vI h), some (vI ((f : Nat) : Int)), some (vI ((w : Nat) : Int)), some (vI ((b : Nat) : Int)), some (vI 1), some (vI ((x : Nat) : Int)), some (vI (crV r x))]) ?_ rfl rfl rfl
        refine M_iload (pc := 125) C dL_law_125 rfl ?_
        refine M_bipush (pc := 127) C (by decide) dL_law_127 ?_
        refine M_icmp_eq (pc := 129) C (tgt := 136) (by omega) (by omega) dL_law_129 (by decide) (fun h_129 => ?_) (fun h_129 => ?_)
        · exfalso
          omega
        · refine M_iconst (pc := 132) C dL_law_132 ?_
          refine M_goto (pc := 133) C (tgt := 137) dL_law_133 (by decide) ?_
          refine M_istore (pc := 137) C dL_law_137 (Nat.le_of_ble_eq_true rfl) ?_
          refine M.to (L2 := [some (vR (-(q : Int) - 2)), some (vR 0), some (vI t), some (vI ((k : Nat) : Int)), some (vI g), some (vI h), some (vI ((f : Nat) : Int)), some (vI ((w : Nat) : Int)), some (vI ((b : Nat) : Int)), some (vI 1), some (vI ((x : Nat) : Int)), some (vI (crV r x))]) ?_ rfl rfl rfl
          refine M_iload_n (pc := 139) C dL_law_139 rfl ?_
          refine M_iload (pc := 140) C dL_law_140 rfl ?_
          refine M_if_lt (pc := 142) C (tgt := 152) (by omega) dL_law_142 (by decide) (fun h_142 => ?_) (fun h_142 => ?_)
          · refine M_iconst (pc := 152) C dL_law_152 ?_
            refine M_ior (pc := 153) C (by omega) (by first | decide | exact ⟨(hpw (by omega)).1, by have := (hpw (by omega)).2; omega⟩) dL_law_153 ?_
            refine M_istore_n (pc := 154) C dL_law_154 (Nat.le_of_ble_eq_true rfl) ?_
            refine M.to (L2 := [some (vR (-(q : Int) - 2)), some (vR 0), some (vI ((t.toNat ||| (0 : Int).toNat : Nat) : Int)), some (vI ((k : Nat) : Int)), some (vI g), some (vI h), some (vI ((f : Nat) : Int)), some (vI ((w : Nat) : Int)), some (vI ((b : Nat) : Int)), some (vI 1), some (vI ((x : Nat) : Int)), some (vI (crV r x))]) ?_ rfl rfl rfl
            refine M_goto (pc := 155) C (tgt := 437) dL_law_155 (by decide) ?_
            exact kk _ _ _ ((t.toNat ||| (0 : Int).toNat : Nat) : Int) _ _ _ _ _ _ _ _ _ ⟨hT, hN, _, _, _, hV_120, hHV_120, by first | exact hcf.1 (by omega) | exact hcf.2.1 (by omega), hH.createP hPk hrP hxb⟩ (by omega) (by omega)
          · refine M_iconst (pc := 145) C dL_law_145 ?_
            refine M_iload (pc := 146) C dL_law_146 rfl ?_
            refine M_ishl (pc := 148) C (by omega) dL_law_148 ?_
            refine M_goto (pc := 149) C (tgt := 153) dL_law_149 (by decide) ?_
            refine M_ior (pc := 153) C (by omega) (by first | decide | exact ⟨(hpw (by omega)).1, by have := (hpw (by omega)).2; omega⟩) dL_law_153 ?_
            refine M_istore_n (pc := 154) C dL_law_154 (Nat.le_of_ble_eq_true rfl) ?_
            refine M.to (L2 := [some (vR (-(q : Int) - 2)), some (vR 0), some (vI ((t.toNat ||| (1 * 2 ^ (crV r x).toNat : Int).toNat : Nat) : Int)), some (vI ((k : Nat) : Int)), some (vI g), some (vI h), some (vI ((f : Nat) : Int)), some (vI ((w : Nat) : Int)), some (vI ((b : Nat) : Int)), some (vI 1), some (vI ((x : Nat) : Int)), some (vI (crV r x))]) ?_ rfl rfl rfl
            refine M_goto (pc := 155) C (tgt := 437) dL_law_155 (by decide) ?_
            exact kk _ _ _ ((t.toNat ||| (1 * 2 ^ (crV r x).toNat : Int).toNat : Nat) : Int) _ _ _ _ _ _ _ _ _ ⟨hT, hN, _, _, _, hV_120, hHV_120, by first | exact hcf.1 (by omega) | exact hcf.2.1 (by omega), hH.createP hPk hrP hxb⟩ (by omega) (by omega)
      · refine M_iload (pc := 92) C dL_law_92 rfl ?_
        refine M_iconst (pc := 94) C dL_law_94 ?_
        refine M_ishr (pc := 95) C (by omega) (by omega) dL_law_95 ?_
        refine M.to (st2 := [vI (h / 32)]) ?_ rfl rfl rfl
        refine M_sipush (pc := 96) C (by decide) dL_law_96 ?_
        refine A_cS (pc := 99) C (x := vI ((h / 32) % 2 ^ 31 % 201)) (c_L_low (v := v) (x := h / 32) (m := 201) hT (by omega) (by decide)) yw_L_low lk_L_79 rfl dL_law_99 rfl (Nat.le_of_ble_eq_true rfl) (by omega) ⟨by omega, by omega⟩ ?_
        refine M_goto (pc := 102) C (tgt := 114) dL_law_102 (by decide) ?_
        obtain ⟨x, hxn⟩ : ∃ x : Nat, (h / 32) % 2 ^ 31 % 201 = (x : Int) := ⟨((h / 32) % 2 ^ 31 % 201).toNat, by omega⟩
        have hxb : x ≤ 200 := by omega
        refine M.to (st2 := [vI ((x : Nat) : Int)]) ?_ rfl (by rw [hxn]) rfl
        refine M_istore (pc := 114) C dL_law_114 (Nat.le_of_ble_eq_true rfl) ?_
        refine M.to (L2 := [some (vR (-(q : Int) - 2)), some (vR 0), some (vI t), some (vI ((k : Nat) : Int)), some (vI g), some (vI h), some (vI ((f : Nat) : Int)), some (vI ((w : Nat) : Int)), some (vI ((b : Nat) : Int)), some (vI 1), some (vI ((x : Nat) : Int)), e11]) ?_ rfl rfl rfl
        refine M_aload_n (pc := 116) C dL_law_116 rfl (by decide) ?_
        refine M_iload_n (pc := 117) C dL_law_117 rfl ?_
        refine M_iload (pc := 118) C dL_law_118 rfl ?_
        refine A_pS (pc := 120) C (c_L_comes (v := v) (r := r) (P := P) (c := c) (s := s) (t := t) (x := x) hT hV hHV (by omega) ht (by omega)) yw_L_comes lk_L_82 rfl dL_law_120 rfl (Nat.le_of_ble_eq_true rfl) (by omega) ⟨by omega, by omega⟩ (fun r_120 v_120 p_120 => ?_)
        obtain ⟨rfl, hV_120, hHV_120, -⟩ := p_120
        refine M.to (pc := 123) (st2 := [vI (crV r x)]) (v2 := v_120) ?_ rfl rfl rfl
        have hcf := hH.comeF hr0 hxb ht
        have hpw : ¬ crV r x < 0 → 0 ≤ (1 * 2 ^ (crV r x).toNat : Int) ∧ (1 * 2 ^ (crV r x).toNat : Int) < 65536 := fun _ => pw16 (by omega)
        refine M_istore (pc := 123) C dL_law_123 (Nat.le_of_ble_eq_true rfl) ?_
        refine M.to (L2 := [some (vR (-(q : Int) - 2)), some (vR 0), some (vI t), some (vI ((k : Nat) : Int)), some (vI g), some (vI h), some (vI ((f : Nat) : Int)), some (vI ((w : Nat) : Int)), some (vI ((b : Nat) : Int)), some (vI 1), some (vI ((x : Nat) : Int)), some (vI (crV r x))]) ?_ rfl rfl rfl
        refine M_iload (pc := 125) C dL_law_125 rfl ?_
        refine M_bipush (pc := 127) C (by decide) dL_law_127 ?_
        refine M_icmp_eq (pc := 129) C (tgt := 136) (by omega) (by omega) dL_law_129 (by decide) (fun h_129 => ?_) (fun h_129 => ?_)
        · exfalso
          omega
        · refine M_iconst (pc := 132) C dL_law_132 ?_
          refine M_goto (pc := 133) C (tgt := 137) dL_law_133 (by decide) ?_
          refine M_istore (pc := 137) C dL_law_137 (Nat.le_of_ble_eq_true rfl) ?_
          refine M.to (L2 := [some (vR (-(q : Int) - 2)), some (vR 0), some (vI t), some (vI ((k : Nat) : Int)), some (vI g), some (vI h), some (vI ((f : Nat) : Int)), some (vI ((w : Nat) : Int)), some (vI ((b : Nat) : Int)), some (vI 1), some (vI ((x : Nat) : Int)), some (vI (crV r x))]) ?_ rfl rfl rfl
          refine M_iload_n (pc := 139) C dL_law_139 rfl ?_
          refine M_iload (pc := 140) C dL_law_140 rfl ?_
          refine M_if_lt (pc := 142) C (tgt := 152) (by omega) dL_law_142 (by decide) (fun h_142 => ?_) (fun h_142 => ?_)
          · refine M_iconst (pc := 152) C dL_law_152 ?_
            refine M_ior (pc := 153) C (by omega) (by first | decide | exact ⟨(hpw (by omega)).1, by have := (hpw (by omega)).2; omega⟩) dL_law_153 ?_
            refine M_istore_n (pc := 154) C dL_law_154 (Nat.le_of_ble_eq_true rfl) ?_
            refine M.to (L2 := [some (vR (-(q : Int) - 2)), some (vR 0), some (vI ((t.toNat ||| (0 : Int).toNat : Nat) : Int)), some (vI ((k : Nat) : Int)), some (vI g), some (vI h), some (vI ((f : Nat) : Int)), some (vI ((w : Nat) : Int)), some (vI ((b : Nat) : Int)), some (vI 1), some (vI ((x : Nat) : Int)), some (vI (crV r x))]) ?_ rfl rfl rfl
            refine M_goto (pc := 155) C (tgt := 437) dL_law_155 (by decide) ?_
            exact kk _ _ _ ((t.toNat ||| (0 : Int).toNat : Nat) : Int) _ _ _ _ _ _ _ _ _ ⟨hT, hN, _, _, _, hV_120, hHV_120, by first | exact hcf.1 (by omega) | exact hcf.2.1 (by omega), hH.createP hPk hrP hxb⟩ (by omega) (by omega)
          · refine M_iconst (pc := 145) C dL_law_145 ?_
            refine M_iload (pc := 146) C dL_law_146 rfl ?_
            refine M_ishl (pc := 148) C (by omega) dL_law_148 ?_
            refine M_goto (pc := 149) C (tgt := 153) dL_law_149 (by decide) ?_
            refine M_ior (pc := 153) C (by omega) (by first | decide | exact ⟨(hpw (by omega)).1, by have := (hpw (by omega)).2; omega⟩) dL_law_153 ?_
            refine M_istore_n (pc := 154) C dL_law_154 (Nat.le_of_ble_eq_true rfl) ?_
            refine M.to (L2 := [some (vR (-(q : Int) - 2)), some (vR 0), some (vI ((t.toNat ||| (1 * 2 ^ (crV r x).toNat : Int).toNat : Nat) : Int)), some (vI ((k : Nat) : Int)), some (vI g), some (vI h), some (vI ((f : Nat) : Int)), some (vI ((w : Nat) : Int)), some (vI ((b : Nat) : Int)), some (vI 1), some (vI ((x : Nat) : Int)), some (vI (crV r x))]) ?_ rfl rfl rfl
            refine M_goto (pc := 155) C (tgt := 437) dL_law_155 (by decide) ?_
            exact kk _ _ _ ((t.toNat ||| (1 * 2 ^ (crV r x).toNat : Int).toNat : Nat) : Int) _ _ _ _ _ _ _ _ _ ⟨hT, hN, _, _, _, hV_120, hHV_120, by first | exact hcf.1 (by omega) | exact hcf.2.1 (by omega), hH.createP hPk hrP hxb⟩ (by omega) (by omega)
