set_option maxHeartbeats 8000000 in
theorem c_L_comes_y {N : Nat} {T : Ty} {r P : Nat → Int} {c : Int} {s : Nat} {t : Int} {x : Nat} {v : Ct} (hT : TT T) (hV : DV v 1 r c) (hHV : HVr v P s c) (hc : c < 900000) (ht : FLm t r) (hx : x ≤ 200) (hca : caB r x = true) : RunsP mL_comes 6 0 0 [vR 0, vI t, vI ((x : Nat) : Int)] N T v N T (fun r1 v1 => r1 = some (vI (crV r x)) ∧ DV v1 1 (crR r x) (c + 1) ∧ HVr v1 (svP P r s) (svN s) (c + 1) ∧ fr v v1) := by
  have hH : DR (v 2) (v 3) (v 4) (v 5) (v 6) (v 7) (v 8) (v 9) r := hV.1
  have hC : CNT (v 1) (v 9) r c := hV.2
  have hs := hHV.1
  have hs6 := hHV.2.1
  have hfr_v : fr v v := fun _ _ => rfl
  obtain ⟨hr0, hr1, hr2, hrP⟩ := hC.bds (by omega)
  have hBI : ∀ {b9 w9 : Nat}, b9 < 24 → w9 < 5 → -1 ≤ biF r b9 w9 ∧ biF r b9 w9 ≤ 24 := fun h1 h2 => hH.biB h1 h2
  have hPR : ∀ {f9 w9 : Nat}, f9 < 10 → ro r f9 0 = 1 → w9 < 7 → -1 ≤ prF r f9 w9 ∧ prF r f9 w9 ≤ 1000000 := fun h1 h2 h3 => hH.prB hrP h1 h2 h3
  have hCT : ∀ {w9 : Nat}, w9 < 12 → 0 ≤ ctX r s w9 ∧ ctX r s w9 ≤ 1000000 := fun h => hH.ctB ⟨by omega, by omega⟩ ⟨by omega, by omega⟩ hr2 hs6 h
  clear hr2
  have htb := ht.1
  obtain ⟨hlo1, hlo2, hlo3⟩ := loN_10 r
  have hgb := grF_b2 r
  obtain ⟨f0, hf0, hq⟩ := hH.comeY hr0 hx hca
  obtain ⟨hqt, hqa, hq3, hq4, hfi2, hq5, hq6⟩ := hq
  refine RunsP.of (by decide) (Nat.le_of_ble_eq_true rfl) fun κ C => ?_
  have hj_22 : M κ N T 22 [some (vR 0), some (vI t), some (vI ((x : Nat) : Int)), some (vI ((loN r : Nat) : Int)), none, none, none, none, none, none] [] v 0 0 (QP κ N T (fun r1 v1 => r1 = some (vI (crV r x)) ∧ DV v1 1 (crR r x) (c + 1) ∧ HVr v1 (svP P r s) (svN s) (c + 1) ∧ fr v v1) 0 0) := by
    refine M_aload_n (pc := 22) C dL_comes_22 rfl (by decide) ?_
    refine M_iconst (pc := 23) C dL_comes_23 ?_
    refine A_cV (pc := 24) C (x := vI (ctX r s 1)) (a := 0) (c := 7) (c_X7_count (v := v) (r := r) (c := c) (s := s) (w := 1) hT hV (by omega) hs) yw_X7_count lk_L_31 rfl (congrArg Prod.fst (tt_0 hT)) hc_7 rfl dL_comes_24 rfl (Nat.le_of_ble_eq_true rfl) (by decide) ⟨Nat.le_refl _, Nat.le_refl _⟩ ?_
    have hct_24 := hCT (w9 := 1) (by omega)
    have hck_24 : ctX r s 1 = cntK r 0 := rfl
    refine M_istore (pc := 27) C dL_comes_27 (by decide) ?_
    refine M.to (L2 := [some (vR 0), some (vI t), some (vI ((x : Nat) : Int)), some (vI ((loN r : Nat) : Int)), some (vI (ctX r s 1)), none, none, none, none, none]) ?_ rfl rfl rfl
    have hj_76 : M κ N T 76 [some (vR 0), some (vI t), some (vI ((x : Nat) : Int)), some (vI ((loN r : Nat) : Int)), some (vI (ctX r s 1)), none, none, none, none, none] [vI (Bi (caB r x))] v 0 0 (QP κ N T (fun r1 v1 => r1 = some (vI (crV r x)) ∧ DV v1 1 (crR r x) (c + 1) ∧ HVr v1 (svP P r s) (svN s) (c + 1) ∧ fr v v1) 0 0) := by
      refine M_istore (pc := 76) C dL_comes_76 (by decide) ?_
      refine M.to (L2 := [some (vR 0), some (vI t), some (vI ((x : Nat) : Int)), some (vI ((loN r : Nat) : Int)), some (vI (ctX r s 1)), some (vI (Bi (caB r x))), none, none, none, none]) ?_ rfl rfl rfl
      refine M_aload_n (pc := 78) C dL_comes_78 rfl (by decide) ?_
      refine A_cV (pc := 79) C (x := vI (grF r)) (a := 0) (c := 7) (c_X7_greatestR (v := v) (r := r) (c := c) hT hV) yw_X7_greatest lk_L_43 rfl (congrArg Prod.fst (tt_0 hT)) hc_7 rfl dL_comes_79 rfl (Nat.le_of_ble_eq_true rfl) (by decide) ⟨Nat.le_refl _, Nat.le_refl _⟩ ?_
      refine M_istore (pc := 82) C dL_comes_82 (by decide) ?_
      refine M.to (L2 := [some (vR 0), some (vI t), some (vI ((x : Nat) : Int)), some (vI ((loN r : Nat) : Int)), some (vI (ctX r s 1)), some (vI (Bi (caB r x))), some (vI (grF r)), none, none, none]) ?_ rfl rfl rfl
      refine M_aload_n (pc := 84) C dL_comes_84 rfl (by decide) ?_
      refine M_bipush (pc := 85) C (by decide) dL_comes_85 ?_
      refine A_cV (pc := 87) C (x := vI (ctX r s 8)) (a := 0) (c := 7) (c_X7_count (v := v) (r := r) (c := c) (s := s) (w := 8) hT hV (by omega) hs) yw_X7_count lk_L_31 rfl (congrArg Prod.fst (tt_0 hT)) hc_7 rfl dL_comes_87 rfl (Nat.le_of_ble_eq_true rfl) (by decide) ⟨Nat.le_refl _, Nat.le_refl _⟩ ?_
      have hct_87 := hCT (w9 := 8) (by omega)
      have hck_87 : ctX r s 8 = r 0 := rfl
      refine M_istore (pc := 90) C dL_comes_90 (by decide) ?_
      refine M.to (L2 := [some (vR 0), some (vI t), some (vI ((x : Nat) : Int)), some (vI ((loN r : Nat) : Int)), some (vI (ctX r s 1)), some (vI (Bi (caB r x))), some (vI (grF r)), some (vI (ctX r s 8)), none, none]) ?_ rfl rfl rfl
      refine M_aload_n (pc := 92) C dL_comes_92 rfl (by decide) ?_
      refine M_iload_n (pc := 93) C dL_comes_93 rfl ?_
      refine A_pV (pc := 94) C (a := 0) (c := 7) (c_X7_create (v := v) (r := r) (P := P) (c := c) (s := s) hT hV hHV (by omega) (x := x) (by omega)) yw_X7_create lk_L_47 rfl (congrArg Prod.fst (tt_0 hT)) hc_7 rfl dL_comes_94 rfl (Nat.le_of_ble_eq_true rfl) (by decide) ⟨Nat.le_refl _, Nat.le_refl _⟩ (fun r_94 v_94 p_94 => ?_)
      obtain ⟨rfl, hV_94, hHV_94, hfs_94⟩ := p_94
      refine M.to (pc := 97) (st2 := [vI (crV r x)]) (v2 := v_94) ?_ rfl rfl rfl
      have hfr_94 : fr v v_94 := fun a ha => (hfs_94 a ha).trans (hfr_v a ha)
      have hH2 := hV_94.1
      obtain ⟨hq0, hq1, hq2, hqP⟩ := CNT.bds hV_94.2 (by omega)
      have hs62 : svN s ≤ 6 := hHV_94.2.1
      have hBI2 : ∀ {b9 w9 : Nat}, b9 < 24 → w9 < 5 → -1 ≤ biF (crR r x) b9 w9 ∧ biF (crR r x) b9 w9 ≤ 24 := fun h1 h2 => hH2.biB h1 h2
      have hPR2 : ∀ {f9 w9 : Nat}, f9 < 10 → ro (crR r x) f9 0 = 1 → w9 < 7 → -1 ≤ prF (crR r x) f9 w9 ∧ prF (crR r x) f9 w9 ≤ 1000000 := fun h1 h2 h3 => hH2.prB hqP h1 h2 h3
      have hCT2 : ∀ {w9 : Nat}, w9 < 12 → 0 ≤ ctX (crR r x) (svN s) w9 ∧ ctX (crR r x) (svN s) w9 ≤ 1000000 := fun h => hH2.ctB ⟨by omega, by omega⟩ ⟨by omega, by omega⟩ hq2 hs62 h
      clear hq2
      refine M_istore (pc := 97) C dL_comes_97 (by decide) ?_
      refine M.to (L2 := [some (vR 0), some (vI t), some (vI ((x : Nat) : Int)), some (vI ((loN r : Nat) : Int)), some (vI (ctX r s 1)), some (vI (Bi (caB r x))), some (vI (grF r)), some (vI (ctX r s 8)), some (vI (crV r x)), none]) ?_ rfl rfl rfl
      refine M_iload (pc := 99) C dL_comes_99 rfl ?_
      refine M_iload (pc := 101) C dL_comes_101 rfl ?_
      refine M_if_eq (pc := 103) C (tgt := 110) (Bi_i32 _) dL_comes_103 (by decide) (fun h => absurd hca (by rw [Bi_eq0 h]; decide)) (fun _ => ?_)
      refine M_iload_n (pc := 106) C dL_comes_106 rfl ?_
      refine M_goto (pc := 107) C (tgt := 111) dL_comes_107 (by decide) ?_
      refine M_icmp_ne (pc := 111) C (tgt := 219) (by omega) (by omega) dL_comes_111 (by decide) (fun h_111 => ?_) (fun h_111 => ?_)
      · exfalso
        omega
      · refine M_aload_n (pc := 114) C dL_comes_114 rfl (by decide) ?_
        refine M_bipush (pc := 115) C (by decide) dL_comes_115 ?_
        refine A_cV (pc := 117) C (x := vI (ctX (crR r x) (svN s) 8)) (a := 0) (c := 7) (c_X7_count (v := v_94) (r := crR r x) (c := c + 1) (s := svN s) (w := 8) hT hV_94 (by omega) hHV_94.1) yw_X7_count lk_L_31 rfl (congrArg Prod.fst (tt_0 hT)) hc_7 rfl dL_comes_117 rfl (Nat.le_of_ble_eq_true rfl) (by decide) ⟨Nat.le_refl _, Nat.le_refl _⟩ ?_
        have hct_117 := hCT2 (w9 := 8) (by omega)
        have hck_117 : ctX (crR r x) (svN s) 8 = (crR r x) 0 := rfl
        refine M_iload (pc := 120) C dL_comes_120 rfl ?_
        refine M_iload (pc := 122) C dL_comes_122 rfl ?_
        refine M_if_eq (pc := 124) C (tgt := 131) (Bi_i32 _) dL_comes_124 (by decide) (fun h => absurd hca (by rw [Bi_eq0 h]; decide)) (fun _ => ?_)
        refine M_iconst (pc := 127) C dL_comes_127 ?_
        refine M_goto (pc := 128) C (tgt := 132) dL_comes_128 (by decide) ?_
        refine M_iadd (pc := 132) C dL_comes_132 ?_
        refine M_icmp_ne (pc := 133) C (tgt := 219) (by omega) (by omega) dL_comes_133 (by decide) (fun h_133 => ?_) (fun h_133 => ?_)
        · exfalso
          omega
        · refine M_iload_n (pc := 136) C dL_comes_136 rfl ?_
          refine M_bipush (pc := 137) C (by decide) dL_comes_137 ?_
          refine M_icmp_ne (pc := 139) C (tgt := 151) (by omega) (by omega) dL_comes_139 (by decide) (fun h_139 => ?_) (fun h_139 => ?_)
          · refine M_iload (pc := 151) C dL_comes_151 rfl ?_
            refine M_if_eq (pc := 153) C (tgt := 165) (Bi_i32 _) dL_comes_153 (by decide) (fun h => absurd hca (by rw [Bi_eq0 h]; decide)) (fun _ => ?_)
            refine M_iload (pc := 156) C dL_comes_156 rfl ?_
            refine M_iload_n (pc := 158) C dL_comes_158 rfl ?_
            refine M_icmp_lt (pc := 159) C (tgt := 219) (by omega) (by omega) dL_comes_159 (by decide) (fun h_159 => ?_) (fun h_159 => ?_)
            · exfalso
              omega
            · refine M_goto (pc := 162) C (tgt := 176) dL_comes_162 (by decide) ?_
              refine M_iload (pc := 176) C dL_comes_176 rfl ?_
              refine M_if_eq (pc := 178) C (tgt := 215) (Bi_i32 _) dL_comes_178 (by decide) (fun h => absurd hca (by rw [Bi_eq0 h]; decide)) (fun _ => ?_)
              refine M_aload_n (pc := 181) C dL_comes_181 rfl (by decide) ?_
              refine M_iload (pc := 182) C dL_comes_182 rfl ?_
              refine M_iconst (pc := 184) C dL_comes_184 ?_
              refine M.to (st2 := [vI 0, vI ((f0 : Nat) : Int), vR 0]) ?_ rfl (by rw [hqt]) rfl
              refine A_cV (pc := 185) C (x := vI (prF (crR r x) f0 0)) (a := 0) (c := 7) (c_X7_fileOf (v := v_94) (r := crR r x) (c := c + 1) (f := f0) (w := 0) hT hV_94 (by omega) hfi2 (by omega)) yw_X7_fileOf lk_L_15 rfl (congrArg Prod.fst (tt_0 hT)) hc_7 rfl dL_comes_185 rfl (Nat.le_of_ble_eq_true rfl) (by decide) ⟨Nat.le_refl _, Nat.le_refl _⟩ ?_
              have hpr_185 := hPR2 (f9 := f0) (w9 := 0) (by omega) hfi2 (by omega)
              refine M_iload_n (pc := 188) C dL_comes_188 rfl ?_
              refine M_icmp_ne (pc := 189) C (tgt := 219) (by omega) (by omega) dL_comes_189 (by decide) (fun h_189 => ?_) (fun h_189 => ?_)
              · exfalso
                omega
              · refine M_aload_n (pc := 192) C dL_comes_192 rfl (by decide) ?_
                refine M_iload (pc := 193) C dL_comes_193 rfl ?_
                refine M_bipush (pc := 195) C (by decide) dL_comes_195 ?_
                refine M.to (st2 := [vI 6, vI ((f0 : Nat) : Int), vR 0]) ?_ rfl (by rw [hqt]) rfl
                refine A_cV (pc := 197) C (x := vI (prF (crR r x) f0 6)) (a := 0) (c := 7) (c_X7_fileOf (v := v_94) (r := crR r x) (c := c + 1) (f := f0) (w := 6) hT hV_94 (by omega) hfi2 (by omega)) yw_X7_fileOf lk_L_15 rfl (congrArg Prod.fst (tt_0 hT)) hc_7 rfl dL_comes_197 rfl (Nat.le_of_ble_eq_true rfl) (by decide) ⟨Nat.le_refl _, Nat.le_refl _⟩ ?_
                have hpr_197 := hPR2 (f9 := f0) (w9 := 6) (by omega) hfi2 (by omega)
                refine M_iload_n (pc := 200) C dL_comes_200 rfl ?_
                refine M_bipush (pc := 201) C (by decide) dL_comes_201 ?_
                refine M_irem (pc := 203) C (by omega) (by decide) dL_comes_203 ?_
                refine M_if_ne (pc := 204) C (tgt := 211) (by omega) dL_comes_204 (by decide) (fun h_204 => ?_) (fun h_204 => ?_)
                · refine M_iconst (pc := 211) C dL_comes_211 ?_
                  refine M_icmp_ne (pc := 212) C (tgt := 219) (by omega) (by omega) dL_comes_212 (by decide) (fun h_212 => ?_) (fun h_212 => ?_)
                  · exfalso
                    omega
                  · refine M_iconst (pc := 215) C dL_comes_215 ?_
                    refine M_goto (pc := 216) C (tgt := 220) dL_comes_216 (by decide) ?_
                    refine M_istore (pc := 220) C dL_comes_220 (by decide) ?_
                    refine M.to (L2 := [some (vR 0), some (vI t), some (vI ((x : Nat) : Int)), some (vI ((loN r : Nat) : Int)), some (vI (ctX r s 1)), some (vI (Bi (caB r x))), some (vI (grF r)), some (vI (ctX r s 8)), some (vI (crV r x)), some (vI 1)]) ?_ rfl rfl rfl
                    refine M_iload (pc := 222) C dL_comes_222 rfl ?_
                    refine M_if_eq (pc := 224) C (tgt := 232) (by decide) dL_comes_224 (by decide) (fun h => absurd h (by decide)) (fun _ => ?_)
                    refine M_iload (pc := 227) C dL_comes_227 rfl ?_
                    refine M_goto (pc := 229) C (tgt := 234) dL_comes_229 (by decide) ?_
                    exact M_iretP (pc := 234) C rfl dL_comes_234 ⟨rfl, hV_94, hHV_94, hfr_94⟩
                · refine M_iconst (pc := 207) C dL_comes_207 ?_
                  refine M_goto (pc := 208) C (tgt := 212) dL_comes_208 (by decide) ?_
                  refine M_icmp_ne (pc := 212) C (tgt := 219) (by omega) (by omega) dL_comes_212 (by decide) (fun h_212 => ?_) (fun h_212 => ?_)
                  · exfalso
                    omega
                  · refine M_iconst (pc := 215) C dL_comes_215 ?_
                    refine M_goto (pc := 216) C (tgt := 220) dL_comes_216 (by decide) ?_
                    refine M_istore (pc := 220) C dL_comes_220 (by decide) ?_
                    refine M.to (L2 := [some (vR 0), some (vI t), some (vI ((x : Nat) : Int)), some (vI ((loN r : Nat) : Int)), some (vI (ctX r s 1)), some (vI (Bi (caB r x))), some (vI (grF r)), some (vI (ctX r s 8)), some (vI (crV r x)), some (vI 1)]) ?_ rfl rfl rfl
                    refine M_iload (pc := 222) C dL_comes_222 rfl ?_
                    refine M_if_eq (pc := 224) C (tgt := 232) (by decide) dL_comes_224 (by decide) (fun h => absurd h (by decide)) (fun _ => ?_)
                    refine M_iload (pc := 227) C dL_comes_227 rfl ?_
                    refine M_goto (pc := 229) C (tgt := 234) dL_comes_229 (by decide) ?_
                    exact M_iretP (pc := 234) C rfl dL_comes_234 ⟨rfl, hV_94, hHV_94, hfr_94⟩
          · refine M_iload (pc := 142) C dL_comes_142 rfl ?_
            refine M_iconst (pc := 144) C dL_comes_144 ?_
            refine M_icmp_ne (pc := 145) C (tgt := 219) (by omega) (by omega) dL_comes_145 (by decide) (fun h_145 => ?_) (fun h_145 => ?_)
            · exfalso
              omega
            · refine M_goto (pc := 148) C (tgt := 176) dL_comes_148 (by decide) ?_
              refine M_iload (pc := 176) C dL_comes_176 rfl ?_
              refine M_if_eq (pc := 178) C (tgt := 215) (Bi_i32 _) dL_comes_178 (by decide) (fun h => absurd hca (by rw [Bi_eq0 h]; decide)) (fun _ => ?_)
              refine M_aload_n (pc := 181) C dL_comes_181 rfl (by decide) ?_
              refine M_iload (pc := 182) C dL_comes_182 rfl ?_
              refine M_iconst (pc := 184) C dL_comes_184 ?_
              refine M.to (st2 := [vI 0, vI ((f0 : Nat) : Int), vR 0]) ?_ rfl (by rw [hqt]) rfl
              refine A_cV (pc := 185) C (x := vI (prF (crR r x) f0 0)) (a := 0) (c := 7) (c_X7_fileOf (v := v_94) (r := crR r x) (c := c + 1) (f := f0) (w := 0) hT hV_94 (by omega) hfi2 (by omega)) yw_X7_fileOf lk_L_15 rfl (congrArg Prod.fst (tt_0 hT)) hc_7 rfl dL_comes_185 rfl (Nat.le_of_ble_eq_true rfl) (by decide) ⟨Nat.le_refl _, Nat.le_refl _⟩ ?_
              have hpr_185 := hPR2 (f9 := f0) (w9 := 0) (by omega) hfi2 (by omega)
              refine M_iload_n (pc := 188) C dL_comes_188 rfl ?_
              refine M_icmp_ne (pc := 189) C (tgt := 219) (by omega) (by omega) dL_comes_189 (by decide) (fun h_189 => ?_) (fun h_189 => ?_)
              · exfalso
                omega
              · refine M_aload_n (pc := 192) C dL_comes_192 rfl (by decide) ?_
                refine M_iload (pc := 193) C dL_comes_193 rfl ?_
                refine M_bipush (pc := 195) C (by decide) dL_comes_195 ?_
                refine M.to (st2 := [vI 6, vI ((f0 : Nat) : Int), vR 0]) ?_ rfl (by rw [hqt]) rfl
                refine A_cV (pc := 197) C (x := vI (prF (crR r x) f0 6)) (a := 0) (c := 7) (c_X7_fileOf (v := v_94) (r := crR r x) (c := c + 1) (f := f0) (w := 6) hT hV_94 (by omega) hfi2 (by omega)) yw_X7_fileOf lk_L_15 rfl (congrArg Prod.fst (tt_0 hT)) hc_7 rfl dL_comes_197 rfl (Nat.le_of_ble_eq_true rfl) (by decide) ⟨Nat.le_refl _, Nat.le_refl _⟩ ?_
                have hpr_197 := hPR2 (f9 := f0) (w9 := 6) (by omega) hfi2 (by omega)
                refine M_iload_n (pc := 200) C dL_comes_200 rfl ?_
                refine M_bipush (pc := 201) C (by decide) dL_comes_201 ?_
                refine M_irem (pc := 203) C (by omega) (by decide) dL_comes_203 ?_
                refine M_if_ne (pc := 204) C (tgt := 211) (by omega) dL_comes_204 (by decide) (fun h_204 => ?_) (fun h_204 => ?_)
                · refine M_iconst (pc := 211) C dL_comes_211 ?_
                  refine M_icmp_ne (pc := 212) C (tgt := 219) (by omega) (by omega) dL_comes_212 (by decide) (fun h_212 => ?_) (fun h_212 => ?_)
                  · exfalso
                    omega
                  · refine M_iconst (pc := 215) C dL_comes_215 ?_
                    refine M_goto (pc := 216) C (tgt := 220) dL_comes_216 (by decide) ?_
                    refine M_istore (pc := 220) C dL_comes_220 (by decide) ?_
                    refine M.to (L2 := [some (vR 0), some (vI t), some (vI ((x : Nat) : Int)), some (vI ((loN r : Nat) : Int)), some (vI (ctX r s 1)), some (vI (Bi (caB r x))), some (vI (grF r)), some (vI (ctX r s 8)), some (vI (crV r x)), some (vI 1)]) ?_ rfl rfl rfl
                    refine M_iload (pc := 222) C dL_comes_222 rfl ?_
                    refine M_if_eq (pc := 224) C (tgt := 232) (by decide) dL_comes_224 (by decide) (fun h => absurd h (by decide)) (fun _ => ?_)
                    refine M_iload (pc := 227) C dL_comes_227 rfl ?_
                    refine M_goto (pc := 229) C (tgt := 234) dL_comes_229 (by decide) ?_
                    exact M_iretP (pc := 234) C rfl dL_comes_234 ⟨rfl, hV_94, hHV_94, hfr_94⟩
                · refine M_iconst (pc := 207) C dL_comes_207 ?_
                  refine M_goto (pc := 208) C (tgt := 212) dL_comes_208 (by decide) ?_
                  refine M_icmp_ne (pc := 212) C (tgt := 219) (by omega) (by omega) dL_comes_212 (by decide) (fun h_212 => ?_) (fun h_212 => ?_)
                  · exfalso
                    omega
                  · refine M_iconst (pc := 215) C dL_comes_215 ?_
                    refine M_goto (pc := 216) C (tgt := 220) dL_comes_216 (by decide) ?_
                    refine M_istore (pc := 220) C dL_comes_220 (by decide) ?_
                    refine M.to (L2 := [some (vR 0), some (vI t), some (vI ((x : Nat) : Int)), some (vI ((loN r : Nat) : Int)), some (vI (ctX r s 1)), some (vI (Bi (caB r x))), some (vI (grF r)), some (vI (ctX r s 8)), some (vI (crV r x)), some (vI 1)]) ?_ rfl rfl rfl
                    refine M_iload (pc := 222) C dL_comes_222 rfl ?_
                    refine M_if_eq (pc := 224) C (tgt := 232) (by decide) dL_comes_224 (by decide) (fun h => absurd h (by decide)) (fun _ => ?_)
                    refine M_iload (pc := 227) C dL_comes_227 rfl ?_
                    refine M_goto (pc := 229) C (tgt := 234) dL_comes_229 (by decide) ?_
                    exact M_iretP (pc := 234) C rfl dL_comes_234 ⟨rfl, hV_94, hHV_94, hfr_94⟩
    refine M_iload_n (pc := 29) C dL_comes_29 rfl ?_
    refine M_bipush (pc := 30) C (by decide) dL_comes_30 ?_
    refine M_icmp_ge (pc := 32) C (tgt := 75) (by omega) (by omega) dL_comes_32 (by decide) (fun h_32 => ?_) (fun h_32 => ?_)
    · refine M_iconst (pc := 75) C dL_comes_75 ?_
      exact M.to hj_76 rfl (by first | (rw [caB_t (by omega) (by omega) (Or.inl (by omega))]; rfl) | (rw [caB_t (by omega) (by omega) (Or.inr (Or.inl (by omega)))]; rfl) | (rw [caB_t (by omega) (by omega) (Or.inr (Or.inr b_68))]; rfl) | (rw [caB_f (fun q1 q2 q3 => by first | omega | (rcases q3 with q3 | q3 | q3 <;> first | omega | (rw [b_68] at q3; cases q3)))]; rfl)) rfl
    · refine M_iload_n (pc := 35) C dL_comes_35 rfl ?_
      refine M_bipush (pc := 36) C (by decide) dL_comes_36 ?_
      refine M_idiv (pc := 38) C (by omega) (by decide) dL_comes_38 ?_
      refine M_iload (pc := 39) C dL_comes_39 rfl ?_
      refine M_icmp_gt (pc := 41) C (tgt := 75) (by omega) (by omega) dL_comes_41 (by decide) (fun h_41 => ?_) (fun h_41 => ?_)
      · refine M_iconst (pc := 75) C dL_comes_75 ?_
        exact M.to hj_76 rfl (by first | (rw [caB_t (by omega) (by omega) (Or.inl (by omega))]; rfl) | (rw [caB_t (by omega) (by omega) (Or.inr (Or.inl (by omega)))]; rfl) | (rw [caB_t (by omega) (by omega) (Or.inr (Or.inr b_68))]; rfl) | (rw [caB_f (fun q1 q2 q3 => by first | omega | (rcases q3 with q3 | q3 | q3 <;> first | omega | (rw [b_68] at q3; cases q3)))]; rfl)) rfl
      · refine M_iload_n (pc := 44) C dL_comes_44 rfl ?_
        refine M_bipush (pc := 45) C (by decide) dL_comes_45 ?_
        refine M_irem (pc := 47) C (by omega) (by decide) dL_comes_47 ?_
        refine M_if_eq (pc := 48) C (tgt := 71) (by omega) dL_comes_48 (by decide) (fun h_48 => ?_) (fun h_48 => ?_)
        · refine M_iconst (pc := 71) C dL_comes_71 ?_
          refine M_goto (pc := 72) C (tgt := 76) dL_comes_72 (by decide) ?_
          exact M.to hj_76 rfl (by first | (rw [caB_t (by omega) (by omega) (Or.inl (by omega))]; rfl) | (rw [caB_t (by omega) (by omega) (Or.inr (Or.inl (by omega)))]; rfl) | (rw [caB_t (by omega) (by omega) (Or.inr (Or.inr b_68))]; rfl) | (rw [caB_f (fun q1 q2 q3 => by first | omega | (rcases q3 with q3 | q3 | q3 <;> first | omega | (rw [b_68] at q3; cases q3)))]; rfl)) rfl
        · refine M_iload_n (pc := 51) C dL_comes_51 rfl ?_
          refine M_bipush (pc := 52) C (by decide) dL_comes_52 ?_
          refine M_idiv (pc := 54) C (by omega) (by decide) dL_comes_54 ?_
          refine M_iload (pc := 55) C dL_comes_55 rfl ?_
          refine M_icmp_lt (pc := 57) C (tgt := 71) (by omega) (by omega) dL_comes_57 (by decide) (fun h_57 => ?_) (fun h_57 => ?_)
          · refine M_iconst (pc := 71) C dL_comes_71 ?_
            refine M_goto (pc := 72) C (tgt := 76) dL_comes_72 (by decide) ?_
            exact M.to hj_76 rfl (by first | (rw [caB_t (by omega) (by omega) (Or.inl (by omega))]; rfl) | (rw [caB_t (by omega) (by omega) (Or.inr (Or.inl (by omega)))]; rfl) | (rw [caB_t (by omega) (by omega) (Or.inr (Or.inr b_68))]; rfl) | (rw [caB_f (fun q1 q2 q3 => by first | omega | (rcases q3 with q3 | q3 | q3 <;> first | omega | (rw [b_68] at q3; cases q3)))]; rfl)) rfl
          · refine M_aload_n (pc := 60) C dL_comes_60 rfl (by decide) ?_
            refine M_iload_n (pc := 61) C dL_comes_61 rfl ?_
            refine M_bipush (pc := 62) C (by decide) dL_comes_62 ?_
            refine M_irem (pc := 64) C (by omega) (by decide) dL_comes_64 ?_
            refine A_cS (pc := 65) C (x := vI (Bi (orN (fun b => decide (((x : Nat) : Int) % 16 ≤ biF r b 3)) 24))) (c_L_hasGap (v := v) (r := r) (c := c) (P := P) (s := s) (x := ((x : Nat) : Int) % 16) hT hV hHV hc (by omega)) yw_L_hasGap lk_L_39 rfl dL_comes_65 rfl (Nat.le_of_ble_eq_true rfl) (by decide) ⟨Nat.le_refl _, Nat.le_refl _⟩ ?_
            refine M_if_eq (pc := 68) C (tgt := 75) (Bi_i32 _) dL_comes_68 (by decide) (fun h_68 => ?_) (fun h_68 => ?_)
            · have b_68 := Bi_eq0 h_68
              refine M_iconst (pc := 75) C dL_comes_75 ?_
              exact M.to hj_76 rfl (by first | (rw [caB_t (by omega) (by omega) (Or.inl (by omega))]; rfl) | (rw [caB_t (by omega) (by omega) (Or.inr (Or.inl (by omega)))]; rfl) | (rw [caB_t (by omega) (by omega) (Or.inr (Or.inr b_68))]; rfl) | (rw [caB_f (fun q1 q2 q3 => by first | omega | (rcases q3 with q3 | q3 | q3 <;> first | omega | (rw [b_68] at q3; cases q3)))]; rfl)) rfl
            · have b_68 := Bi_ne0 h_68
              refine M_iconst (pc := 71) C dL_comes_71 ?_
              refine M_goto (pc := 72) C (tgt := 76) dL_comes_72 (by decide) ?_
              exact M.to hj_76 rfl (by first | (rw [caB_t (by omega) (by omega) (Or.inl (by omega))]; rfl) | (rw [caB_t (by omega) (by omega) (Or.inr (Or.inl (by omega)))]; rfl) | (rw [caB_t (by omega) (by omega) (Or.inr (Or.inr b_68))]; rfl) | (rw [caB_f (fun q1 q2 q3 => by first | omega | (rcases q3 with q3 | q3 | q3 <;> first | omega | (rw [b_68] at q3; cases q3)))]; rfl)) rfl
  refine M_iconst (pc := 0) C dL_comes_0 ?_
  refine M_istore_n (pc := 1) C dL_comes_1 (by decide) ?_
  refine M.to (L2 := [some (vR 0), some (vI t), some (vI ((x : Nat) : Int)), some (vI 0), none, none, none, none, none, none]) ?_ rfl rfl rfl
  refine loop_le (P := fun i => (∀ j, j < i → ro r j 0 = 1) → M κ N T 2 [some (vR 0), some (vI t), some (vI ((x : Nat) : Int)), some (vI ((i : Nat) : Int)), none, none, none, none, none, none] [] v 0 0 (QP κ N T (fun r1 v1 => r1 = some (vI (crV r x)) ∧ DV v1 1 (crR r x) (c + 1) ∧ HVr v1 (svP P r s) (svN s) (c + 1) ∧ fr v v1) 0 0)) 10 (fun i hi ih => ?_) (fun j hj => absurd hj (Nat.not_lt_zero j))
  intro hin
  refine M_iload_n (pc := 2) C dL_comes_2 rfl ?_
  refine M_bipush (pc := 3) C (by decide) dL_comes_3 ?_
  refine M_icmp_ge (pc := 5) C (tgt := 22) (by omega) (by omega) dL_comes_5 (by decide) (fun h_5 => ?_) (fun h_5 => ?_)
  · exact M.to hj_22 (by first | (rw [loN_no (by omega) hin]) | (rw [loN_at (by omega) hin hri (hH.ro01 (by omega))])) rfl rfl
  · refine M_iload_n (pc := 8) C dL_comes_8 rfl ?_
    refine M_iload_n (pc := 9) C dL_comes_9 rfl ?_
    refine A_cS (pc := 10) C (x := vI (Bi (btB t i))) (c_L_has (v := v) (t := t) (f := i) hT (by omega) (by omega)) yw_L_has lk_L_9 rfl dL_comes_10 rfl (Nat.le_of_ble_eq_true rfl) (by decide) ⟨Nat.le_refl _, Nat.le_refl _⟩ ?_
    refine M_if_eq (pc := 13) C (tgt := 22) (Bi_i32 _) dL_comes_13 (by decide) (fun h_13 => ?_) (fun h_13 => ?_)
    · have b_13 := Bi_eq0 h_13
      have hri : ro r i 0 ≠ 1 := fun q => by rw [ht.bt (by omega), decide_eq_true q] at b_13; cases b_13
      exact M.to hj_22 (by first | (rw [loN_no (by omega) hin]) | (rw [loN_at (by omega) hin hri (hH.ro01 (by omega))])) rfl rfl
    · have b_13 := Bi_ne0 h_13
      have hri : ro r i 0 = 1 := by rw [ht.bt (by omega)] at b_13; exact of_decide_eq_true b_13
      refine M_iinc (pc := 16) C dL_comes_16 rfl (by decide) ?_
      refine M.to (L2 := [some (vR 0), some (vI t), some (vI ((x : Nat) : Int)), some (vI (((i : Nat) : Int) + 1)), none, none, none, none, none, none]) ?_ rfl rfl rfl
      refine M_goto (pc := 19) C (tgt := 2) dL_comes_19 (by decide) ?_
      exact M.to (ih (by omega) (fun j hj => if e : j = i then (by rw [e]; exact hri) else hin j (by omega))) rfl rfl rfl
set_option maxHeartbeats 8000000 in
theorem c_L_comes_n {N : Nat} {T : Ty} {r P : Nat → Int} {c : Int} {s : Nat} {t : Int} {x : Nat} {v : Ct} (hT : TT T) (hV : DV v 1 r c) (hHV : HVr v P s c) (hc : c < 900000) (ht : FLm t r) (hx : x ≤ 200) (hca : caB r x = false) : RunsP mL_comes 6 0 0 [vR 0, vI t, vI ((x : Nat) : Int)] N T v N T (fun r1 v1 => r1 = some (vI (crV r x)) ∧ DV v1 1 (crR r x) (c + 1) ∧ HVr v1 (svP P r s) (svN s) (c + 1) ∧ fr v v1) := by
  have hH : DR (v 2) (v 3) (v 4) (v 5) (v 6) (v 7) (v 8) (v 9) r := hV.1
  have hC : CNT (v 1) (v 9) r c := hV.2
  have hs := hHV.1
  have hs6 := hHV.2.1
  have hfr_v : fr v v := fun _ _ => rfl
  obtain ⟨hr0, hr1, hr2, hrP⟩ := hC.bds (by omega)
  have hBI : ∀ {b9 w9 : Nat}, b9 < 24 → w9 < 5 → -1 ≤ biF r b9 w9 ∧ biF r b9 w9 ≤ 24 := fun h1 h2 => hH.biB h1 h2
  have hPR : ∀ {f9 w9 : Nat}, f9 < 10 → ro r f9 0 = 1 → w9 < 7 → -1 ≤ prF r f9 w9 ∧ prF r f9 w9 ≤ 1000000 := fun h1 h2 h3 => hH.prB hrP h1 h2 h3
  have hCT : ∀ {w9 : Nat}, w9 < 12 → 0 ≤ ctX r s w9 ∧ ctX r s w9 ≤ 1000000 := fun h => hH.ctB ⟨by omega, by omega⟩ ⟨by omega, by omega⟩ hr2 hs6 h
  clear hr2
  have htb := ht.1
  obtain ⟨hlo1, hlo2, hlo3⟩ := loN_10 r
  have hgb := grF_b2 r
  obtain ⟨hqt, hqa, hq3, hq4⟩ := hH.comeN hr0 hx hca
  refine RunsP.of (by decide) (Nat.le_of_ble_eq_true rfl) fun κ C => ?_
  have hj_22 : M κ N T 22 [some (vR 0), some (vI t), some (vI ((x : Nat) : Int)), some (vI ((loN r : Nat) : Int)), none, none, none, none, none, none] [] v 0 0 (QP κ N T (fun r1 v1 => r1 = some (vI (crV r x)) ∧ DV v1 1 (crR r x) (c + 1) ∧ HVr v1 (svP P r s) (svN s) (c + 1) ∧ fr v v1) 0 0) := by
    refine M_aload_n (pc := 22) C dL_comes_22 rfl (by decide) ?_
    refine M_iconst (pc := 23) C dL_comes_23 ?_
    refine A_cV (pc := 24) C (x := vI (ctX r s 1)) (a := 0) (c := 7) (c_X7_count (v := v) (r := r) (c := c) (s := s) (w := 1) hT hV (by omega) hs) yw_X7_count lk_L_31 rfl (congrArg Prod.fst (tt_0 hT)) hc_7 rfl dL_comes_24 rfl (Nat.le_of_ble_eq_true rfl) (by decide) ⟨Nat.le_refl _, Nat.le_refl _⟩ ?_
    have hct_24 := hCT (w9 := 1) (by omega)
    have hck_24 : ctX r s 1 = cntK r 0 := rfl
    refine M_istore (pc := 27) C dL_comes_27 (by decide) ?_
    refine M.to (L2 := [some (vR 0), some (vI t), some (vI ((x : Nat) : Int)), some (vI ((loN r : Nat) : Int)), some (vI (ctX r s 1)), none, none, none, none, none]) ?_ rfl rfl rfl
    have hj_76 : M κ N T 76 [some (vR 0), some (vI t), some (vI ((x : Nat) : Int)), some (vI ((loN r : Nat) : Int)), some (vI (ctX r s 1)), none, none, none, none, none] [vI (Bi (caB r x))] v 0 0 (QP κ N T (fun r1 v1 => r1 = some (vI (crV r x)) ∧ DV v1 1 (crR r x) (c + 1) ∧ HVr v1 (svP P r s) (svN s) (c + 1) ∧ fr v v1) 0 0) := by
      refine M_istore (pc := 76) C dL_comes_76 (by decide) ?_
      refine M.to (L2 := [some (vR 0), some (vI t), some (vI ((x : Nat) : Int)), some (vI ((loN r : Nat) : Int)), some (vI (ctX r s 1)), some (vI (Bi (caB r x))), none, none, none, none]) ?_ rfl rfl rfl
      refine M_aload_n (pc := 78) C dL_comes_78 rfl (by decide) ?_
      refine A_cV (pc := 79) C (x := vI (grF r)) (a := 0) (c := 7) (c_X7_greatestR (v := v) (r := r) (c := c) hT hV) yw_X7_greatest lk_L_43 rfl (congrArg Prod.fst (tt_0 hT)) hc_7 rfl dL_comes_79 rfl (Nat.le_of_ble_eq_true rfl) (by decide) ⟨Nat.le_refl _, Nat.le_refl _⟩ ?_
      refine M_istore (pc := 82) C dL_comes_82 (by decide) ?_
      refine M.to (L2 := [some (vR 0), some (vI t), some (vI ((x : Nat) : Int)), some (vI ((loN r : Nat) : Int)), some (vI (ctX r s 1)), some (vI (Bi (caB r x))), some (vI (grF r)), none, none, none]) ?_ rfl rfl rfl
      refine M_aload_n (pc := 84) C dL_comes_84 rfl (by decide) ?_
      refine M_bipush (pc := 85) C (by decide) dL_comes_85 ?_
      refine A_cV (pc := 87) C (x := vI (ctX r s 8)) (a := 0) (c := 7) (c_X7_count (v := v) (r := r) (c := c) (s := s) (w := 8) hT hV (by omega) hs) yw_X7_count lk_L_31 rfl (congrArg Prod.fst (tt_0 hT)) hc_7 rfl dL_comes_87 rfl (Nat.le_of_ble_eq_true rfl) (by decide) ⟨Nat.le_refl _, Nat.le_refl _⟩ ?_
      have hct_87 := hCT (w9 := 8) (by omega)
      have hck_87 : ctX r s 8 = r 0 := rfl
      refine M_istore (pc := 90) C dL_comes_90 (by decide) ?_
      refine M.to (L2 := [some (vR 0), some (vI t), some (vI ((x : Nat) : Int)), some (vI ((loN r : Nat) : Int)), some (vI (ctX r s 1)), some (vI (Bi (caB r x))), some (vI (grF r)), some (vI (ctX r s 8)), none, none]) ?_ rfl rfl rfl
      refine M_aload_n (pc := 92) C dL_comes_92 rfl (by decide) ?_
      refine M_iload_n (pc := 93) C dL_comes_93 rfl ?_
      refine A_pV (pc := 94) C (a := 0) (c := 7) (c_X7_create (v := v) (r := r) (P := P) (c := c) (s := s) hT hV hHV (by omega) (x := x) (by omega)) yw_X7_create lk_L_47 rfl (congrArg Prod.fst (tt_0 hT)) hc_7 rfl dL_comes_94 rfl (Nat.le_of_ble_eq_true rfl) (by decide) ⟨Nat.le_refl _, Nat.le_refl _⟩ (fun r_94 v_94 p_94 => ?_)
      obtain ⟨rfl, hV_94, hHV_94, hfs_94⟩ := p_94
      refine M.to (pc := 97) (st2 := [vI (crV r x)]) (v2 := v_94) ?_ rfl rfl rfl
      have hfr_94 : fr v v_94 := fun a ha => (hfs_94 a ha).trans (hfr_v a ha)
      have hH2 := hV_94.1
      obtain ⟨hq0, hq1, hq2, hqP⟩ := CNT.bds hV_94.2 (by omega)
      have hs62 : svN s ≤ 6 := hHV_94.2.1
      have hBI2 : ∀ {b9 w9 : Nat}, b9 < 24 → w9 < 5 → -1 ≤ biF (crR r x) b9 w9 ∧ biF (crR r x) b9 w9 ≤ 24 := fun h1 h2 => hH2.biB h1 h2
      have hPR2 : ∀ {f9 w9 : Nat}, f9 < 10 → ro (crR r x) f9 0 = 1 → w9 < 7 → -1 ≤ prF (crR r x) f9 w9 ∧ prF (crR r x) f9 w9 ≤ 1000000 := fun h1 h2 h3 => hH2.prB hqP h1 h2 h3
      have hCT2 : ∀ {w9 : Nat}, w9 < 12 → 0 ≤ ctX (crR r x) (svN s) w9 ∧ ctX (crR r x) (svN s) w9 ≤ 1000000 := fun h => hH2.ctB ⟨by omega, by omega⟩ ⟨by omega, by omega⟩ hq2 hs62 h
      clear hq2
      refine M_istore (pc := 97) C dL_comes_97 (by decide) ?_
      refine M.to (L2 := [some (vR 0), some (vI t), some (vI ((x : Nat) : Int)), some (vI ((loN r : Nat) : Int)), some (vI (ctX r s 1)), some (vI (Bi (caB r x))), some (vI (grF r)), some (vI (ctX r s 8)), some (vI (crV r x)), none]) ?_ rfl rfl rfl
      refine M_iload (pc := 99) C dL_comes_99 rfl ?_
      refine M_iload (pc := 101) C dL_comes_101 rfl ?_
      refine M_if_eq (pc := 103) C (tgt := 110) (Bi_i32 _) dL_comes_103 (by decide) (fun _ => ?_) (fun h => absurd hca (by rw [Bi_ne0 h]; decide))
      refine M_iconst (pc := 110) C dL_comes_110 ?_
      refine M_icmp_ne (pc := 111) C (tgt := 219) (by omega) (by omega) dL_comes_111 (by decide) (fun h_111 => ?_) (fun h_111 => ?_)
      · exfalso
        omega
      · refine M_aload_n (pc := 114) C dL_comes_114 rfl (by decide) ?_
        refine M_bipush (pc := 115) C (by decide) dL_comes_115 ?_
        refine A_cV (pc := 117) C (x := vI (ctX (crR r x) (svN s) 8)) (a := 0) (c := 7) (c_X7_count (v := v_94) (r := crR r x) (c := c + 1) (s := svN s) (w := 8) hT hV_94 (by omega) hHV_94.1) yw_X7_count lk_L_31 rfl (congrArg Prod.fst (tt_0 hT)) hc_7 rfl dL_comes_117 rfl (Nat.le_of_ble_eq_true rfl) (by decide) ⟨Nat.le_refl _, Nat.le_refl _⟩ ?_
        have hct_117 := hCT2 (w9 := 8) (by omega)
        have hck_117 : ctX (crR r x) (svN s) 8 = (crR r x) 0 := rfl
        refine M_iload (pc := 120) C dL_comes_120 rfl ?_
        refine M_iload (pc := 122) C dL_comes_122 rfl ?_
        refine M_if_eq (pc := 124) C (tgt := 131) (Bi_i32 _) dL_comes_124 (by decide) (fun _ => ?_) (fun h => absurd hca (by rw [Bi_ne0 h]; decide))
        refine M_iconst (pc := 131) C dL_comes_131 ?_
        refine M_iadd (pc := 132) C dL_comes_132 ?_
        refine M_icmp_ne (pc := 133) C (tgt := 219) (by omega) (by omega) dL_comes_133 (by decide) (fun h_133 => ?_) (fun h_133 => ?_)
        · exfalso
          omega
        · refine M_iload_n (pc := 136) C dL_comes_136 rfl ?_
          refine M_bipush (pc := 137) C (by decide) dL_comes_137 ?_
          refine M_icmp_ne (pc := 139) C (tgt := 151) (by omega) (by omega) dL_comes_139 (by decide) (fun h_139 => ?_) (fun h_139 => ?_)
          · refine M_iload (pc := 151) C dL_comes_151 rfl ?_
            refine M_if_eq (pc := 153) C (tgt := 165) (Bi_i32 _) dL_comes_153 (by decide) (fun _ => ?_) (fun h => absurd hca (by rw [Bi_ne0 h]; decide))
            refine M_iload (pc := 165) C dL_comes_165 rfl ?_
            refine M_if_lt (pc := 167) C (tgt := 219) (by omega) dL_comes_167 (by decide) (fun h_167 => ?_) (fun h_167 => ?_)
            · exfalso
              omega
            · refine M_iload (pc := 170) C dL_comes_170 rfl ?_
              refine M_iload_n (pc := 172) C dL_comes_172 rfl ?_
              refine M_icmp_eq (pc := 173) C (tgt := 219) (by omega) (by omega) dL_comes_173 (by decide) (fun h_173 => ?_) (fun h_173 => ?_)
              · exfalso
                omega
              · refine M_iload (pc := 176) C dL_comes_176 rfl ?_
                refine M_if_eq (pc := 178) C (tgt := 215) (Bi_i32 _) dL_comes_178 (by decide) (fun _ => ?_) (fun h => absurd hca (by rw [Bi_ne0 h]; decide))
                refine M_iconst (pc := 215) C dL_comes_215 ?_
                refine M_goto (pc := 216) C (tgt := 220) dL_comes_216 (by decide) ?_
                refine M_istore (pc := 220) C dL_comes_220 (by decide) ?_
                refine M.to (L2 := [some (vR 0), some (vI t), some (vI ((x : Nat) : Int)), some (vI ((loN r : Nat) : Int)), some (vI (ctX r s 1)), some (vI (Bi (caB r x))), some (vI (grF r)), some (vI (ctX r s 8)), some (vI (crV r x)), some (vI 1)]) ?_ rfl rfl rfl
                refine M_iload (pc := 222) C dL_comes_222 rfl ?_
                refine M_if_eq (pc := 224) C (tgt := 232) (by decide) dL_comes_224 (by decide) (fun h => absurd h (by decide)) (fun _ => ?_)
                refine M_iload (pc := 227) C dL_comes_227 rfl ?_
                refine M_goto (pc := 229) C (tgt := 234) dL_comes_229 (by decide) ?_
                exact M_iretP (pc := 234) C rfl dL_comes_234 ⟨rfl, hV_94, hHV_94, hfr_94⟩
          · refine M_iload (pc := 142) C dL_comes_142 rfl ?_
            refine M_iconst (pc := 144) C dL_comes_144 ?_
            refine M_icmp_ne (pc := 145) C (tgt := 219) (by omega) (by omega) dL_comes_145 (by decide) (fun h_145 => ?_) (fun h_145 => ?_)
            · exfalso
              omega
            · refine M_goto (pc := 148) C (tgt := 176) dL_comes_148 (by decide) ?_
              refine M_iload (pc := 176) C dL_comes_176 rfl ?_
              refine M_if_eq (pc := 178) C (tgt := 215) (Bi_i32 _) dL_comes_178 (by decide) (fun _ => ?_) (fun h => absurd hca (by rw [Bi_ne0 h]; decide))
              refine M_iconst (pc := 215) C dL_comes_215 ?_
              refine M_goto (pc := 216) C (tgt := 220) dL_comes_216 (by decide) ?_
              refine M_istore (pc := 220) C dL_comes_220 (by decide) ?_
              refine M.to (L2 := [some (vR 0), some (vI t), some (vI ((x : Nat) : Int)), some (vI ((loN r : Nat) : Int)), some (vI (ctX r s 1)), some (vI (Bi (caB r x))), some (vI (grF r)), some (vI (ctX r s 8)), some (vI (crV r x)), some (vI 1)]) ?_ rfl rfl rfl
              refine M_iload (pc := 222) C dL_comes_222 rfl ?_
              refine M_if_eq (pc := 224) C (tgt := 232) (by decide) dL_comes_224 (by decide) (fun h => absurd h (by decide)) (fun _ => ?_)
              refine M_iload (pc := 227) C dL_comes_227 rfl ?_
              refine M_goto (pc := 229) C (tgt := 234) dL_comes_229 (by decide) ?_
              exact M_iretP (pc := 234) C rfl dL_comes_234 ⟨rfl, hV_94, hHV_94, hfr_94⟩
    refine M_iload_n (pc := 29) C dL_comes_29 rfl ?_
    refine M_bipush (pc := 30) C (by decide) dL_comes_30 ?_
    refine M_icmp_ge (pc := 32) C (tgt := 75) (by omega) (by omega) dL_comes_32 (by decide) (fun h_32 => ?_) (fun h_32 => ?_)
    · refine M_iconst (pc := 75) C dL_comes_75 ?_
      exact M.to hj_76 rfl (by first | (rw [caB_t (by omega) (by omega) (Or.inl (by omega))]; rfl) | (rw [caB_t (by omega) (by omega) (Or.inr (Or.inl (by omega)))]; rfl) | (rw [caB_t (by omega) (by omega) (Or.inr (Or.inr b_68))]; rfl) | (rw [caB_f (fun q1 q2 q3 => by first | omega | (rcases q3 with q3 | q3 | q3 <;> first | omega | (rw [b_68] at q3; cases q3)))]; rfl)) rfl
    · refine M_iload_n (pc := 35) C dL_comes_35 rfl ?_
      refine M_bipush (pc := 36) C (by decide) dL_comes_36 ?_
      refine M_idiv (pc := 38) C (by omega) (by decide) dL_comes_38 ?_
      refine M_iload (pc := 39) C dL_comes_39 rfl ?_
      refine M_icmp_gt (pc := 41) C (tgt := 75) (by omega) (by omega) dL_comes_41 (by decide) (fun h_41 => ?_) (fun h_41 => ?_)
      · refine M_iconst (pc := 75) C dL_comes_75 ?_
        exact M.to hj_76 rfl (by first | (rw [caB_t (by omega) (by omega) (Or.inl (by omega))]; rfl) | (rw [caB_t (by omega) (by omega) (Or.inr (Or.inl (by omega)))]; rfl) | (rw [caB_t (by omega) (by omega) (Or.inr (Or.inr b_68))]; rfl) | (rw [caB_f (fun q1 q2 q3 => by first | omega | (rcases q3 with q3 | q3 | q3 <;> first | omega | (rw [b_68] at q3; cases q3)))]; rfl)) rfl
      · refine M_iload_n (pc := 44) C dL_comes_44 rfl ?_
        refine M_bipush (pc := 45) C (by decide) dL_comes_45 ?_
        refine M_irem (pc := 47) C (by omega) (by decide) dL_comes_47 ?_
        refine M_if_eq (pc := 48) C (tgt := 71) (by omega) dL_comes_48 (by decide) (fun h_48 => ?_) (fun h_48 => ?_)
        · refine M_iconst (pc := 71) C dL_comes_71 ?_
          refine M_goto (pc := 72) C (tgt := 76) dL_comes_72 (by decide) ?_
          exact M.to hj_76 rfl (by first | (rw [caB_t (by omega) (by omega) (Or.inl (by omega))]; rfl) | (rw [caB_t (by omega) (by omega) (Or.inr (Or.inl (by omega)))]; rfl) | (rw [caB_t (by omega) (by omega) (Or.inr (Or.inr b_68))]; rfl) | (rw [caB_f (fun q1 q2 q3 => by first | omega | (rcases q3 with q3 | q3 | q3 <;> first | omega | (rw [b_68] at q3; cases q3)))]; rfl)) rfl
        · refine M_iload_n (pc := 51) C dL_comes_51 rfl ?_
          refine M_bipush (pc := 52) C (by decide) dL_comes_52 ?_
          refine M_idiv (pc := 54) C (by omega) (by decide) dL_comes_54 ?_
          refine M_iload (pc := 55) C dL_comes_55 rfl ?_
          refine M_icmp_lt (pc := 57) C (tgt := 71) (by omega) (by omega) dL_comes_57 (by decide) (fun h_57 => ?_) (fun h_57 => ?_)
          · refine M_iconst (pc := 71) C dL_comes_71 ?_
            refine M_goto (pc := 72) C (tgt := 76) dL_comes_72 (by decide) ?_
            exact M.to hj_76 rfl (by first | (rw [caB_t (by omega) (by omega) (Or.inl (by omega))]; rfl) | (rw [caB_t (by omega) (by omega) (Or.inr (Or.inl (by omega)))]; rfl) | (rw [caB_t (by omega) (by omega) (Or.inr (Or.inr b_68))]; rfl) | (rw [caB_f (fun q1 q2 q3 => by first | omega | (rcases q3 with q3 | q3 | q3 <;> first | omega | (rw [b_68] at q3; cases q3)))]; rfl)) rfl
          · refine M_aload_n (pc := 60) C dL_comes_60 rfl (by decide) ?_
            refine M_iload_n (pc := 61) C dL_comes_61 rfl ?_
            refine M_bipush (pc := 62) C (by decide) dL_comes_62 ?_
            refine M_irem (pc := 64) C (by omega) (by decide) dL_comes_64 ?_
            refine A_cS (pc := 65) C (x := vI (Bi (orN (fun b => decide (((x : Nat) : Int) % 16 ≤ biF r b 3)) 24))) (c_L_hasGap (v := v) (r := r) (c := c) (P := P) (s := s) (x := ((x : Nat) : Int) % 16) hT hV hHV hc (by omega)) yw_L_hasGap lk_L_39 rfl dL_comes_65 rfl (Nat.le_of_ble_eq_true rfl) (by decide) ⟨Nat.le_refl _, Nat.le_refl _⟩ ?_
            refine M_if_eq (pc := 68) C (tgt := 75) (Bi_i32 _) dL_comes_68 (by decide) (fun h_68 => ?_) (fun h_68 => ?_)
            · have b_68 := Bi_eq0 h_68
              refine M_iconst (pc := 75) C dL_comes_75 ?_
              exact M.to hj_76 rfl (by first | (rw [caB_t (by omega) (by omega) (Or.inl (by omega))]; rfl) | (rw [caB_t (by omega) (by omega) (Or.inr (Or.inl (by omega)))]; rfl) | (rw [caB_t (by omega) (by omega) (Or.inr (Or.inr b_68))]; rfl) | (rw [caB_f (fun q1 q2 q3 => by first | omega | (rcases q3 with q3 | q3 | q3 <;> first | omega | (rw [b_68] at q3; cases q3)))]; rfl)) rfl
            · have b_68 := Bi_ne0 h_68
              refine M_iconst (pc := 71) C dL_comes_71 ?_
              refine M_goto (pc := 72) C (tgt := 76) dL_comes_72 (by decide) ?_
              exact M.to hj_76 rfl (by first | (rw [caB_t (by omega) (by omega) (Or.inl (by omega))]; rfl) | (rw [caB_t (by omega) (by omega) (Or.inr (Or.inl (by omega)))]; rfl) | (rw [caB_t (by omega) (by omega) (Or.inr (Or.inr b_68))]; rfl) | (rw [caB_f (fun q1 q2 q3 => by first | omega | (rcases q3 with q3 | q3 | q3 <;> first | omega | (rw [b_68] at q3; cases q3)))]; rfl)) rfl
  refine M_iconst (pc := 0) C dL_comes_0 ?_
  refine M_istore_n (pc := 1) C dL_comes_1 (by decide) ?_
  refine M.to (L2 := [some (vR 0), some (vI t), some (vI ((x : Nat) : Int)), some (vI 0), none, none, none, none, none, none]) ?_ rfl rfl rfl
  refine loop_le (P := fun i => (∀ j, j < i → ro r j 0 = 1) → M κ N T 2 [some (vR 0), some (vI t), some (vI ((x : Nat) : Int)), some (vI ((i : Nat) : Int)), none, none, none, none, none, none] [] v 0 0 (QP κ N T (fun r1 v1 => r1 = some (vI (crV r x)) ∧ DV v1 1 (crR r x) (c + 1) ∧ HVr v1 (svP P r s) (svN s) (c + 1) ∧ fr v v1) 0 0)) 10 (fun i hi ih => ?_) (fun j hj => absurd hj (Nat.not_lt_zero j))
  intro hin
  refine M_iload_n (pc := 2) C dL_comes_2 rfl ?_
  refine M_bipush (pc := 3) C (by decide) dL_comes_3 ?_
  refine M_icmp_ge (pc := 5) C (tgt := 22) (by omega) (by omega) dL_comes_5 (by decide) (fun h_5 => ?_) (fun h_5 => ?_)
  · exact M.to hj_22 (by first | (rw [loN_no (by omega) hin]) | (rw [loN_at (by omega) hin hri (hH.ro01 (by omega))])) rfl rfl
  · refine M_iload_n (pc := 8) C dL_comes_8 rfl ?_
    refine M_iload_n (pc := 9) C dL_comes_9 rfl ?_
    refine A_cS (pc := 10) C (x := vI (Bi (btB t i))) (c_L_has (v := v) (t := t) (f := i) hT (by omega) (by omega)) yw_L_has lk_L_9 rfl dL_comes_10 rfl (Nat.le_of_ble_eq_true rfl) (by decide) ⟨Nat.le_refl _, Nat.le_refl _⟩ ?_
    refine M_if_eq (pc := 13) C (tgt := 22) (Bi_i32 _) dL_comes_13 (by decide) (fun h_13 => ?_) (fun h_13 => ?_)
    · have b_13 := Bi_eq0 h_13
      have hri : ro r i 0 ≠ 1 := fun q => by rw [ht.bt (by omega), decide_eq_true q] at b_13; cases b_13
      exact M.to hj_22 (by first | (rw [loN_no (by omega) hin]) | (rw [loN_at (by omega) hin hri (hH.ro01 (by omega))])) rfl rfl
    · have b_13 := Bi_ne0 h_13
      have hri : ro r i 0 = 1 := by rw [ht.bt (by omega)] at b_13; exact of_decide_eq_true b_13
      refine M_iinc (pc := 16) C dL_comes_16 rfl (by decide) ?_
      refine M.to (L2 := [some (vR 0), some (vI t), some (vI ((x : Nat) : Int)), some (vI (((i : Nat) : Int) + 1)), none, none, none, none, none, none]) ?_ rfl rfl rfl
      refine M_goto (pc := 19) C (tgt := 2) dL_comes_19 (by decide) ?_
      exact M.to (ih (by omega) (fun j hj => if e : j = i then (by rw [e]; exact hri) else hin j (by omega))) rfl rfl rfl
