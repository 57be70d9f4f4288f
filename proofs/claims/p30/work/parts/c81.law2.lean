set_option maxHeartbeats 8000000 in
theorem c_L_grows {N : Nat} {T : Ty} {r P : Nat → Int} {c : Int} {s : Nat} {f n : Nat} {v : Ct} (hT : TT T) (hV : DV v 1 r c) (hHV : HVr v P s c) (hc : c < 900000) (hf : f < 10) (hfi : ro r f 0 = 1) (hn : 1 ≤ n ∧ n ≤ 200) : RunsP mL_grows 6 0 0 [vR 0, vI ((f : Nat) : Int), vI ((n : Nat) : Int)] N T v N T (fun r1 v1 => r1 = some (vI 1) ∧ DV v1 1 (opR r (gwO r f n)) (c + 1) ∧ HVr v1 (svP P r s) (svN s) (c + 1) ∧ fr v v1) := by
  have hH : DR (v 2) (v 3) (v 4) (v 5) (v 6) (v 7) (v 8) (v 9) r := hV.1
  have hC : CNT (v 1) (v 9) r c := hV.2
  have hs := hHV.1
  have hs6 := hHV.2.1
  have hfr_v : fr v v := fun _ _ => rfl
  obtain ⟨hr0, hr1, hr2, hrP⟩ := hC.bds (by omega)
  have hBI : ∀ {b9 w9 : Nat}, b9 < 24 → w9 < 5 → -1 ≤ biF r b9 w9 ∧ biF r b9 w9 ≤ 24 := fun h1 h2 => hH.biB h1 h2
  have hPR : ∀ {f9 w9 : Nat}, f9 < 10 → ro r f9 0 = 1 → w9 < 7 → -1 ≤ prF r f9 w9 ∧ prF r f9 w9 ≤ 1000000 := fun h1 h2 h3 => hH.prB hrP h1 h2 h3
  have hCT : ∀ {w9 : Nat}, w9 < 12 → 0 ≤ ctX r s w9 ∧ ctX r s w9 ≤ 1000000 := fun h => hH.ctB ⟨by omega, by omega⟩ ⟨by omega, by omega⟩ hr2 hs6 h
  clear hr2
  obtain ⟨hex, hq⟩ := hH.growQ hr0 hrP hf hfi hn
  have hfi2 : ro (opR r (gwO r f n)) f 0 = 1 := (hex f hf).trans hfi
  obtain ⟨z0, z200⟩ := hH.prZ hf hfi
  have htg : -1 ≤ opV (gwO r f n) ∧ opV (gwO r f n) ≤ 1 := by rcases hq with ⟨h, -⟩ | ⟨h, -⟩ | ⟨h, -⟩ <;> rw [h] <;> decide
  refine RunsP.of (by decide) (Nat.le_of_ble_eq_true rfl) fun κ C => ?_
  refine M_aload_n (pc := 0) C dL_grows_0 rfl (by decide) ?_
  refine M_iload_n (pc := 1) C dL_grows_1 rfl ?_
  refine M_iconst (pc := 2) C dL_grows_2 ?_
  refine A_cV (pc := 3) C (x := vI (prF r f 0)) (a := 0) (c := 7) (c_X7_fileOf (v := v) (r := r) (c := c) (f := f) (w := 0) hT hV (by omega) hfi (by omega)) yw_X7_fileOf lk_L_15 rfl (congrArg Prod.fst (tt_0 hT)) hc_7 rfl dL_grows_3 rfl (Nat.le_of_ble_eq_true rfl) (by decide) ⟨Nat.le_refl _, Nat.le_refl _⟩ ?_
  have hpr_3 := hPR (f9 := f) (w9 := 0) (by omega) hfi (by omega)
  refine M_istore_n (pc := 6) C dL_grows_6 (by decide) ?_
  refine M.to (L2 := [some (vR 0), some (vI ((f : Nat) : Int)), some (vI ((n : Nat) : Int)), some (vI (prF r f 0)), none, none, none, none, none, none, none]) ?_ rfl rfl rfl
  refine M_aload_n (pc := 7) C dL_grows_7 rfl (by decide) ?_
  refine M_iload_n (pc := 8) C dL_grows_8 rfl ?_
  refine M_iconst (pc := 9) C dL_grows_9 ?_
  refine A_cV (pc := 10) C (x := vI (prF r f 3)) (a := 0) (c := 7) (c_X7_fileOf (v := v) (r := r) (c := c) (f := f) (w := 3) hT hV (by omega) hfi (by omega)) yw_X7_fileOf lk_L_15 rfl (congrArg Prod.fst (tt_0 hT)) hc_7 rfl dL_grows_10 rfl (Nat.le_of_ble_eq_true rfl) (by decide) ⟨Nat.le_refl _, Nat.le_refl _⟩ ?_
  have hpr_10 := hPR (f9 := f) (w9 := 3) (by omega) hfi (by omega)
  refine M_istore (pc := 13) C dL_grows_13 (by decide) ?_
  refine M.to (L2 := [some (vR 0), some (vI ((f : Nat) : Int)), some (vI ((n : Nat) : Int)), some (vI (prF r f 0)), some (vI (prF r f 3)), none, none, none, none, none, none]) ?_ rfl rfl rfl
  refine M_aload_n (pc := 15) C dL_grows_15 rfl (by decide) ?_
  refine M_iload_n (pc := 16) C dL_grows_16 rfl ?_
  refine M_iconst (pc := 17) C dL_grows_17 ?_
  refine A_cV (pc := 18) C (x := vI (prF r f 4)) (a := 0) (c := 7) (c_X7_fileOf (v := v) (r := r) (c := c) (f := f) (w := 4) hT hV (by omega) hfi (by omega)) yw_X7_fileOf lk_L_15 rfl (congrArg Prod.fst (tt_0 hT)) hc_7 rfl dL_grows_18 rfl (Nat.le_of_ble_eq_true rfl) (by decide) ⟨Nat.le_refl _, Nat.le_refl _⟩ ?_
  have hpr_18 := hPR (f9 := f) (w9 := 4) (by omega) hfi (by omega)
  refine M_istore (pc := 21) C dL_grows_21 (by decide) ?_
  refine M.to (L2 := [some (vR 0), some (vI ((f : Nat) : Int)), some (vI ((n : Nat) : Int)), some (vI (prF r f 0)), some (vI (prF r f 3)), some (vI (prF r f 4)), none, none, none, none, none]) ?_ rfl rfl rfl
  refine M_aload_n (pc := 23) C dL_grows_23 rfl (by decide) ?_
  refine M_iload_n (pc := 24) C dL_grows_24 rfl ?_
  refine M_bipush (pc := 25) C (by decide) dL_grows_25 ?_
  refine A_cV (pc := 27) C (x := vI (prF r f 6)) (a := 0) (c := 7) (c_X7_fileOf (v := v) (r := r) (c := c) (f := f) (w := 6) hT hV (by omega) hfi (by omega)) yw_X7_fileOf lk_L_15 rfl (congrArg Prod.fst (tt_0 hT)) hc_7 rfl dL_grows_27 rfl (Nat.le_of_ble_eq_true rfl) (by decide) ⟨Nat.le_refl _, Nat.le_refl _⟩ ?_
  have hpr_27 := hPR (f9 := f) (w9 := 6) (by omega) hfi (by omega)
  refine M_istore (pc := 30) C dL_grows_30 (by decide) ?_
  refine M.to (L2 := [some (vR 0), some (vI ((f : Nat) : Int)), some (vI ((n : Nat) : Int)), some (vI (prF r f 0)), some (vI (prF r f 3)), some (vI (prF r f 4)), some (vI (prF r f 6)), none, none, none, none]) ?_ rfl rfl rfl
  refine M_aload_n (pc := 32) C dL_grows_32 rfl (by decide) ?_
  refine M_bipush (pc := 33) C (by decide) dL_grows_33 ?_
  refine A_cV (pc := 35) C (x := vI (ctX r s 8)) (a := 0) (c := 7) (c_X7_count (v := v) (r := r) (c := c) (s := s) (w := 8) hT hV (by omega) hs) yw_X7_count lk_L_31 rfl (congrArg Prod.fst (tt_0 hT)) hc_7 rfl dL_grows_35 rfl (Nat.le_of_ble_eq_true rfl) (by decide) ⟨Nat.le_refl _, Nat.le_refl _⟩ ?_
  have hct_35 := hCT (w9 := 8) (by omega)
  have hck_35 : ctX r s 8 = r 0 := rfl
  refine M_istore (pc := 38) C dL_grows_38 (by decide) ?_
  refine M.to (L2 := [some (vR 0), some (vI ((f : Nat) : Int)), some (vI ((n : Nat) : Int)), some (vI (prF r f 0)), some (vI (prF r f 3)), some (vI (prF r f 4)), some (vI (prF r f 6)), some (vI (ctX r s 8)), none, none, none]) ?_ rfl rfl rfl
  refine M_aload_n (pc := 40) C dL_grows_40 rfl (by decide) ?_
  refine M_iload_n (pc := 41) C dL_grows_41 rfl ?_
  refine M_iload_n (pc := 42) C dL_grows_42 rfl ?_
  refine A_cV (pc := 43) C (x := vI (opV (gwO r f n))) (a := 0) (c := 7) (c_X7_ifGrown (v := v) (r := r) (c := c) (f := f) (n := n) hT hV (by omega) hfi (by omega)) yw_X7_ifGrown lk_L_50 rfl (congrArg Prod.fst (tt_0 hT)) hc_7 rfl dL_grows_43 rfl (Nat.le_of_ble_eq_true rfl) (by decide) ⟨Nat.le_refl _, Nat.le_refl _⟩ ?_
  refine M_istore (pc := 46) C dL_grows_46 (by decide) ?_
  refine M.to (L2 := [some (vR 0), some (vI ((f : Nat) : Int)), some (vI ((n : Nat) : Int)), some (vI (prF r f 0)), some (vI (prF r f 3)), some (vI (prF r f 4)), some (vI (prF r f 6)), some (vI (ctX r s 8)), some (vI (opV (gwO r f n))), none, none]) ?_ rfl rfl rfl
  refine M_aload_n (pc := 48) C dL_grows_48 rfl (by decide) ?_
  refine M_iload_n (pc := 49) C dL_grows_49 rfl ?_
  refine M_iload_n (pc := 50) C dL_grows_50 rfl ?_
  refine A_pV (pc := 51) C (a := 0) (c := 7) (c_X7_grow (v := v) (r := r) (P := P) (c := c) (s := s) hT hV hHV (by omega) (f := f) (n := n) (by omega) hfi (by omega)) yw_X7_grow lk_L_53 rfl (congrArg Prod.fst (tt_0 hT)) hc_7 rfl dL_grows_51 rfl (Nat.le_of_ble_eq_true rfl) (by decide) ⟨Nat.le_refl _, Nat.le_refl _⟩ (fun r_51 v_51 p_51 => ?_)
  obtain ⟨rfl, hV_51, hHV_51, hfs_51⟩ := p_51
  refine M.to (pc := 54) (st2 := [vI (opV (gwO r f n))]) (v2 := v_51) ?_ rfl rfl rfl
  have hfr_51 : fr v v_51 := fun a ha => (hfs_51 a ha).trans (hfr_v a ha)
  have hH2 := hV_51.1
  obtain ⟨hq0, hq1, hq2, hqP⟩ := CNT.bds hV_51.2 (by omega)
  have hs62 : svN s ≤ 6 := hHV_51.2.1
  have hBI2 : ∀ {b9 w9 : Nat}, b9 < 24 → w9 < 5 → -1 ≤ biF (opR r (gwO r f n)) b9 w9 ∧ biF (opR r (gwO r f n)) b9 w9 ≤ 24 := fun h1 h2 => hH2.biB h1 h2
  have hPR2 : ∀ {f9 w9 : Nat}, f9 < 10 → ro (opR r (gwO r f n)) f9 0 = 1 → w9 < 7 → -1 ≤ prF (opR r (gwO r f n)) f9 w9 ∧ prF (opR r (gwO r f n)) f9 w9 ≤ 1000000 := fun h1 h2 h3 => hH2.prB hqP h1 h2 h3
  have hCT2 : ∀ {w9 : Nat}, w9 < 12 → 0 ≤ ctX (opR r (gwO r f n)) (svN s) w9 ∧ ctX (opR r (gwO r f n)) (svN s) w9 ≤ 1000000 := fun h => hH2.ctB ⟨by omega, by omega⟩ ⟨by omega, by omega⟩ hq2 hs62 h
  clear hq2
  refine M_istore (pc := 54) C dL_grows_54 (by decide) ?_
  refine M.to (L2 := [some (vR 0), some (vI ((f : Nat) : Int)), some (vI ((n : Nat) : Int)), some (vI (prF r f 0)), some (vI (prF r f 3)), some (vI (prF r f 4)), some (vI (prF r f 6)), some (vI (ctX r s 8)), some (vI (opV (gwO r f n))), some (vI (opV (gwO r f n))), none]) ?_ rfl rfl rfl
  refine M_iload (pc := 56) C dL_grows_56 rfl ?_
  refine M_iload (pc := 58) C dL_grows_58 rfl ?_
  refine M_icmp_ne (pc := 60) C (tgt := 85) (by omega) (by omega) dL_grows_60 (by decide) (fun h_60 => ?_) (fun h_60 => ?_)
  · exact absurd rfl h_60
  · have hj_87 : M κ N T 87 [some (vR 0), some (vI ((f : Nat) : Int)), some (vI ((n : Nat) : Int)), some (vI (prF r f 0)), some (vI (prF r f 3)), some (vI (prF r f 4)), some (vI (prF r f 6)), some (vI (ctX r s 8)), some (vI (opV (gwO r f n))), some (vI (opV (gwO r f n))), none] [] v_51 0 0 (QP κ N T (fun r1 v1 => r1 = some (vI 1) ∧ DV v1 1 (opR r (gwO r f n)) (c + 1) ∧ HVr v1 (svP P r s) (svN s) (c + 1) ∧ fr v v1) 0 0) := by
      refine M_iload (pc := 87) C dL_grows_87 rfl ?_
      refine M_if_ge (pc := 89) C (tgt := 159) (by omega) dL_grows_89 (by decide) (fun h_89 => ?_) (fun h_89 => ?_)
      · refine M_aload_n (pc := 159) C dL_grows_159 rfl (by decide) ?_
        refine M_iload_n (pc := 160) C dL_grows_160 rfl ?_
        refine M_iconst (pc := 161) C dL_grows_161 ?_
        refine A_cV (pc := 162) C (x := vI (prF (opR r (gwO r f n)) f 0)) (a := 0) (c := 7) (c_X7_fileOf (v := v_51) (r := opR r (gwO r f n)) (c := c + 1) (f := f) (w := 0) hT hV_51 (by omega) hfi2 (by omega)) yw_X7_fileOf lk_L_15 rfl (congrArg Prod.fst (tt_0 hT)) hc_7 rfl dL_grows_162 rfl (Nat.le_of_ble_eq_true rfl) (by decide) ⟨Nat.le_refl _, Nat.le_refl _⟩ ?_
        have hpr_162 := hPR2 (f9 := f) (w9 := 0) (by omega) hfi2 (by omega)
        refine M_iload_n (pc := 165) C dL_grows_165 rfl ?_
        refine M_iload_n (pc := 166) C dL_grows_166 rfl ?_
        refine M_iadd (pc := 167) C dL_grows_167 ?_
        refine M_icmp_ne (pc := 168) C (tgt := 184) (by omega) (by omega) dL_grows_168 (by decide) (fun h_168 => ?_) (fun h_168 => ?_)
        · exfalso
          omega
        · refine M_aload_n (pc := 171) C dL_grows_171 rfl (by decide) ?_
          refine M_iload_n (pc := 172) C dL_grows_172 rfl ?_
          refine M_iconst (pc := 173) C dL_grows_173 ?_
          refine A_cV (pc := 174) C (x := vI (prF (opR r (gwO r f n)) f 5)) (a := 0) (c := 7) (c_X7_fileOf (v := v_51) (r := opR r (gwO r f n)) (c := c + 1) (f := f) (w := 5) hT hV_51 (by omega) hfi2 (by omega)) yw_X7_fileOf lk_L_15 rfl (congrArg Prod.fst (tt_0 hT)) hc_7 rfl dL_grows_174 rfl (Nat.le_of_ble_eq_true rfl) (by decide) ⟨Nat.le_refl _, Nat.le_refl _⟩ ?_
          have hpr_174 := hPR2 (f9 := f) (w9 := 5) (by omega) hfi2 (by omega)
          refine M_if_ne (pc := 177) C (tgt := 184) (by omega) dL_grows_177 (by decide) (fun h_177 => ?_) (fun h_177 => ?_)
          · exfalso
            omega
          · refine M_iconst (pc := 180) C dL_grows_180 ?_
            refine M_goto (pc := 181) C (tgt := 185) dL_grows_181 (by decide) ?_
            refine M_istore (pc := 185) C dL_grows_185 (by decide) ?_
            refine M.to (L2 := [some (vR 0), some (vI ((f : Nat) : Int)), some (vI ((n : Nat) : Int)), some (vI (prF r f 0)), some (vI (prF r f 3)), some (vI (prF r f 4)), some (vI (prF r f 6)), some (vI (ctX r s 8)), some (vI (opV (gwO r f n))), some (vI (opV (gwO r f n))), some (vI 1)]) ?_ rfl rfl rfl
            refine M_iload (pc := 187) C dL_grows_187 rfl ?_
            refine M_if_eq (pc := 189) C (tgt := 285) (by decide) dL_grows_189 (by decide) (fun h => absurd h (by decide)) (fun _ => ?_)
            refine M_iload (pc := 192) C dL_grows_192 rfl ?_
            refine M_if_ne (pc := 194) C (tgt := 254) (by omega) dL_grows_194 (by decide) (fun h_194 => ?_) (fun h_194 => ?_)
            · rcases hq with hq | hq | hq <;> first | (exfalso; omega; done) | skip
              refine M_aload_n (pc := 254) C dL_grows_254 rfl (by decide) ?_
              refine M_iload_n (pc := 255) C dL_grows_255 rfl ?_
              refine M_bipush (pc := 256) C (by decide) dL_grows_256 ?_
              refine A_cV (pc := 258) C (x := vI (prF (opR r (gwO r f n)) f 6)) (a := 0) (c := 7) (c_X7_fileOf (v := v_51) (r := opR r (gwO r f n)) (c := c + 1) (f := f) (w := 6) hT hV_51 (by omega) hfi2 (by omega)) yw_X7_fileOf lk_L_15 rfl (congrArg Prod.fst (tt_0 hT)) hc_7 rfl dL_grows_258 rfl (Nat.le_of_ble_eq_true rfl) (by decide) ⟨Nat.le_refl _, Nat.le_refl _⟩ ?_
              have hpr_258 := hPR2 (f9 := f) (w9 := 6) (by omega) hfi2 (by omega)
              refine M_iload (pc := 261) C dL_grows_261 rfl ?_
              refine M_iload_n (pc := 263) C dL_grows_263 rfl ?_
              refine M_iload_n (pc := 264) C dL_grows_264 rfl ?_
              refine M_iadd (pc := 265) C dL_grows_265 ?_
              refine M_bipush (pc := 266) C (by decide) dL_grows_266 ?_
              refine M_irem (pc := 268) C (by omega) (by decide) dL_grows_268 ?_
              refine M_if_ne (pc := 269) C (tgt := 276) (by omega) dL_grows_269 (by decide) (fun h_269 => ?_) (fun h_269 => ?_)
              · refine M_iconst (pc := 276) C dL_grows_276 ?_
                refine M_iadd (pc := 277) C dL_grows_277 ?_
                refine M_icmp_ne (pc := 278) C (tgt := 285) (by omega) (by omega) dL_grows_278 (by decide) (fun h_278 => ?_) (fun h_278 => ?_)
                · exfalso
                  omega
                · refine M_iconst (pc := 281) C dL_grows_281 ?_
                  refine M_goto (pc := 282) C (tgt := 286) dL_grows_282 (by decide) ?_
                  exact M_zretP (pc := 286) C rfl (Or.inr rfl) dL_grows_286 ⟨rfl, hV_51, hHV_51, hfr_51⟩
              · refine M_iconst (pc := 272) C dL_grows_272 ?_
                refine M_goto (pc := 273) C (tgt := 277) dL_grows_273 (by decide) ?_
                refine M_iadd (pc := 277) C dL_grows_277 ?_
                refine M_icmp_ne (pc := 278) C (tgt := 285) (by omega) (by omega) dL_grows_278 (by decide) (fun h_278 => ?_) (fun h_278 => ?_)
                · exfalso
                  omega
                · refine M_iconst (pc := 281) C dL_grows_281 ?_
                  refine M_goto (pc := 282) C (tgt := 286) dL_grows_282 (by decide) ?_
                  exact M_zretP (pc := 286) C rfl (Or.inr rfl) dL_grows_286 ⟨rfl, hV_51, hHV_51, hfr_51⟩
            · rcases hq with hq | hq | hq <;> first | (exfalso; omega; done) | skip
              refine M_iload_n (pc := 197) C dL_grows_197 rfl ?_
              refine M_bipush (pc := 198) C (by decide) dL_grows_198 ?_
              refine M_irem (pc := 200) C (by omega) (by decide) dL_grows_200 ?_
              refine M_if_le (pc := 201) C (tgt := 285) (by omega) dL_grows_201 (by decide) (fun h_201 => ?_) (fun h_201 => ?_)
              · exfalso
                omega
              · refine M_iload_n (pc := 204) C dL_grows_204 rfl ?_
                refine M_bipush (pc := 205) C (by decide) dL_grows_205 ?_
                refine M_idiv (pc := 207) C (by omega) (by decide) dL_grows_207 ?_
                refine M_iload_n (pc := 208) C dL_grows_208 rfl ?_
                refine M_iload_n (pc := 209) C dL_grows_209 rfl ?_
                refine M_iadd (pc := 210) C dL_grows_210 ?_
                refine M_bipush (pc := 211) C (by decide) dL_grows_211 ?_
                refine M_idiv (pc := 213) C (by omega) (by decide) dL_grows_213 ?_
                refine M_icmp_ne (pc := 214) C (tgt := 285) (by omega) (by omega) dL_grows_214 (by decide) (fun h_214 => ?_) (fun h_214 => ?_)
                · exfalso
                  omega
                · refine M_aload_n (pc := 217) C dL_grows_217 rfl (by decide) ?_
                  refine M_iload_n (pc := 218) C dL_grows_218 rfl ?_
                  refine M_iconst (pc := 219) C dL_grows_219 ?_
                  refine A_cV (pc := 220) C (x := vI (prF (opR r (gwO r f n)) f 3)) (a := 0) (c := 7) (c_X7_fileOf (v := v_51) (r := opR r (gwO r f n)) (c := c + 1) (f := f) (w := 3) hT hV_51 (by omega) hfi2 (by omega)) yw_X7_fileOf lk_L_15 rfl (congrArg Prod.fst (tt_0 hT)) hc_7 rfl dL_grows_220 rfl (Nat.le_of_ble_eq_true rfl) (by decide) ⟨Nat.le_refl _, Nat.le_refl _⟩ ?_
                  have hpr_220 := hPR2 (f9 := f) (w9 := 3) (by omega) hfi2 (by omega)
                  refine M_iload (pc := 223) C dL_grows_223 rfl ?_
                  refine M_icmp_ne (pc := 225) C (tgt := 285) (by omega) (by omega) dL_grows_225 (by decide) (fun h_225 => ?_) (fun h_225 => ?_)
                  · exfalso
                    omega
                  · refine M_aload_n (pc := 228) C dL_grows_228 rfl (by decide) ?_
                    refine M_iload_n (pc := 229) C dL_grows_229 rfl ?_
                    refine M_iconst (pc := 230) C dL_grows_230 ?_
                    refine A_cV (pc := 231) C (x := vI (prF (opR r (gwO r f n)) f 4)) (a := 0) (c := 7) (c_X7_fileOf (v := v_51) (r := opR r (gwO r f n)) (c := c + 1) (f := f) (w := 4) hT hV_51 (by omega) hfi2 (by omega)) yw_X7_fileOf lk_L_15 rfl (congrArg Prod.fst (tt_0 hT)) hc_7 rfl dL_grows_231 rfl (Nat.le_of_ble_eq_true rfl) (by decide) ⟨Nat.le_refl _, Nat.le_refl _⟩ ?_
                    have hpr_231 := hPR2 (f9 := f) (w9 := 4) (by omega) hfi2 (by omega)
                    refine M_iload (pc := 234) C dL_grows_234 rfl ?_
                    refine M_icmp_ne (pc := 236) C (tgt := 285) (by omega) (by omega) dL_grows_236 (by decide) (fun h_236 => ?_) (fun h_236 => ?_)
                    · exfalso
                      omega
                    · refine M_aload_n (pc := 239) C dL_grows_239 rfl (by decide) ?_
                      refine M_iload_n (pc := 240) C dL_grows_240 rfl ?_
                      refine M_bipush (pc := 241) C (by decide) dL_grows_241 ?_
                      refine A_cV (pc := 243) C (x := vI (prF (opR r (gwO r f n)) f 6)) (a := 0) (c := 7) (c_X7_fileOf (v := v_51) (r := opR r (gwO r f n)) (c := c + 1) (f := f) (w := 6) hT hV_51 (by omega) hfi2 (by omega)) yw_X7_fileOf lk_L_15 rfl (congrArg Prod.fst (tt_0 hT)) hc_7 rfl dL_grows_243 rfl (Nat.le_of_ble_eq_true rfl) (by decide) ⟨Nat.le_refl _, Nat.le_refl _⟩ ?_
                      have hpr_243 := hPR2 (f9 := f) (w9 := 6) (by omega) hfi2 (by omega)
                      refine M_iload (pc := 246) C dL_grows_246 rfl ?_
                      refine M_icmp_ne (pc := 248) C (tgt := 285) (by omega) (by omega) dL_grows_248 (by decide) (fun h_248 => ?_) (fun h_248 => ?_)
                      · exfalso
                        omega
                      · refine M_goto (pc := 251) C (tgt := 281) dL_grows_251 (by decide) ?_
                        refine M_iconst (pc := 281) C dL_grows_281 ?_
                        refine M_goto (pc := 282) C (tgt := 286) dL_grows_282 (by decide) ?_
                        exact M_zretP (pc := 286) C rfl (Or.inr rfl) dL_grows_286 ⟨rfl, hV_51, hHV_51, hfr_51⟩
      · rcases hq with hq | hq | hq <;> first | (exfalso; omega; done) | skip
        refine M_aload_n (pc := 92) C dL_grows_92 rfl (by decide) ?_
        refine M_iload_n (pc := 93) C dL_grows_93 rfl ?_
        refine M_iconst (pc := 94) C dL_grows_94 ?_
        refine A_cV (pc := 95) C (x := vI (prF (opR r (gwO r f n)) f 0)) (a := 0) (c := 7) (c_X7_fileOf (v := v_51) (r := opR r (gwO r f n)) (c := c + 1) (f := f) (w := 0) hT hV_51 (by omega) hfi2 (by omega)) yw_X7_fileOf lk_L_15 rfl (congrArg Prod.fst (tt_0 hT)) hc_7 rfl dL_grows_95 rfl (Nat.le_of_ble_eq_true rfl) (by decide) ⟨Nat.le_refl _, Nat.le_refl _⟩ ?_
        have hpr_95 := hPR2 (f9 := f) (w9 := 0) (by omega) hfi2 (by omega)
        refine M_iload_n (pc := 98) C dL_grows_98 rfl ?_
        refine M_icmp_ne (pc := 99) C (tgt := 157) (by omega) (by omega) dL_grows_99 (by decide) (fun h_99 => ?_) (fun h_99 => ?_)
        · exfalso
          omega
        · refine M_aload_n (pc := 102) C dL_grows_102 rfl (by decide) ?_
          refine M_iload_n (pc := 103) C dL_grows_103 rfl ?_
          refine M_iconst (pc := 104) C dL_grows_104 ?_
          refine A_cV (pc := 105) C (x := vI (prF (opR r (gwO r f n)) f 3)) (a := 0) (c := 7) (c_X7_fileOf (v := v_51) (r := opR r (gwO r f n)) (c := c + 1) (f := f) (w := 3) hT hV_51 (by omega) hfi2 (by omega)) yw_X7_fileOf lk_L_15 rfl (congrArg Prod.fst (tt_0 hT)) hc_7 rfl dL_grows_105 rfl (Nat.le_of_ble_eq_true rfl) (by decide) ⟨Nat.le_refl _, Nat.le_refl _⟩ ?_
          have hpr_105 := hPR2 (f9 := f) (w9 := 3) (by omega) hfi2 (by omega)
          refine M_iload (pc := 108) C dL_grows_108 rfl ?_
          refine M_icmp_ne (pc := 110) C (tgt := 157) (by omega) (by omega) dL_grows_110 (by decide) (fun h_110 => ?_) (fun h_110 => ?_)
          · exfalso
            omega
          · refine M_aload_n (pc := 113) C dL_grows_113 rfl (by decide) ?_
            refine M_iload_n (pc := 114) C dL_grows_114 rfl ?_
            refine M_iconst (pc := 115) C dL_grows_115 ?_
            refine A_cV (pc := 116) C (x := vI (prF (opR r (gwO r f n)) f 4)) (a := 0) (c := 7) (c_X7_fileOf (v := v_51) (r := opR r (gwO r f n)) (c := c + 1) (f := f) (w := 4) hT hV_51 (by omega) hfi2 (by omega)) yw_X7_fileOf lk_L_15 rfl (congrArg Prod.fst (tt_0 hT)) hc_7 rfl dL_grows_116 rfl (Nat.le_of_ble_eq_true rfl) (by decide) ⟨Nat.le_refl _, Nat.le_refl _⟩ ?_
            have hpr_116 := hPR2 (f9 := f) (w9 := 4) (by omega) hfi2 (by omega)
            refine M_iload (pc := 119) C dL_grows_119 rfl ?_
            refine M_icmp_ne (pc := 121) C (tgt := 157) (by omega) (by omega) dL_grows_121 (by decide) (fun h_121 => ?_) (fun h_121 => ?_)
            · exfalso
              omega
            · refine M_aload_n (pc := 124) C dL_grows_124 rfl (by decide) ?_
              refine M_iload_n (pc := 125) C dL_grows_125 rfl ?_
              refine M_iconst (pc := 126) C dL_grows_126 ?_
              refine A_cV (pc := 127) C (x := vI (prF (opR r (gwO r f n)) f 5)) (a := 0) (c := 7) (c_X7_fileOf (v := v_51) (r := opR r (gwO r f n)) (c := c + 1) (f := f) (w := 5) hT hV_51 (by omega) hfi2 (by omega)) yw_X7_fileOf lk_L_15 rfl (congrArg Prod.fst (tt_0 hT)) hc_7 rfl dL_grows_127 rfl (Nat.le_of_ble_eq_true rfl) (by decide) ⟨Nat.le_refl _, Nat.le_refl _⟩ ?_
              have hpr_127 := hPR2 (f9 := f) (w9 := 5) (by omega) hfi2 (by omega)
              refine M_iconst (pc := 130) C dL_grows_130 ?_
              refine M_icmp_eq (pc := 131) C (tgt := 153) (by omega) (by omega) dL_grows_131 (by decide) (fun h_131 => ?_) (fun h_131 => ?_)
              · refine M_iconst (pc := 153) C dL_grows_153 ?_
                refine M_goto (pc := 154) C (tgt := 158) dL_grows_154 (by decide) ?_
                exact M_zretP (pc := 158) C rfl (Or.inr rfl) dL_grows_158 ⟨rfl, hV_51, hHV_51, hfr_51⟩
              · refine M_iload_n (pc := 134) C dL_grows_134 rfl ?_
                refine M_iload_n (pc := 135) C dL_grows_135 rfl ?_
                refine M_iadd (pc := 136) C dL_grows_136 ?_
                refine M_sipush (pc := 137) C (by decide) dL_grows_137 ?_
                refine M_icmp_gt (pc := 140) C (tgt := 153) (by omega) (by omega) dL_grows_140 (by decide) (fun h_140 => ?_) (fun h_140 => ?_)
                · refine M_iconst (pc := 153) C dL_grows_153 ?_
                  refine M_goto (pc := 154) C (tgt := 158) dL_grows_154 (by decide) ?_
                  exact M_zretP (pc := 158) C rfl (Or.inr rfl) dL_grows_158 ⟨rfl, hV_51, hHV_51, hfr_51⟩
                · refine M_aload_n (pc := 143) C dL_grows_143 rfl (by decide) ?_
                  refine M_iconst (pc := 144) C dL_grows_144 ?_
                  refine A_cV (pc := 145) C (x := vI (ctX (opR r (gwO r f n)) (svN s) 1)) (a := 0) (c := 7) (c_X7_count (v := v_51) (r := opR r (gwO r f n)) (c := c + 1) (s := svN s) (w := 1) hT hV_51 (by omega) hHV_51.1) yw_X7_count lk_L_31 rfl (congrArg Prod.fst (tt_0 hT)) hc_7 rfl dL_grows_145 rfl (Nat.le_of_ble_eq_true rfl) (by decide) ⟨Nat.le_refl _, Nat.le_refl _⟩ ?_
                  have hct_145 := hCT2 (w9 := 1) (by omega)
                  have hck_145 : ctX (opR r (gwO r f n)) (svN s) 1 = cntK (opR r (gwO r f n)) 0 := rfl
                  refine M_bipush (pc := 148) C (by decide) dL_grows_148 ?_
                  refine M_icmp_ge (pc := 150) C (tgt := 157) (by omega) (by omega) dL_grows_150 (by decide) (fun h_150 => ?_) (fun h_150 => ?_)
                  · exfalso
                    omega
                  · refine M_iconst (pc := 153) C dL_grows_153 ?_
                    refine M_goto (pc := 154) C (tgt := 158) dL_grows_154 (by decide) ?_
                    exact M_zretP (pc := 158) C rfl (Or.inr rfl) dL_grows_158 ⟨rfl, hV_51, hHV_51, hfr_51⟩
    refine M_aload_n (pc := 63) C dL_grows_63 rfl (by decide) ?_
    refine M_bipush (pc := 64) C (by decide) dL_grows_64 ?_
    refine A_cV (pc := 66) C (x := vI (ctX (opR r (gwO r f n)) (svN s) 8)) (a := 0) (c := 7) (c_X7_count (v := v_51) (r := opR r (gwO r f n)) (c := c + 1) (s := svN s) (w := 8) hT hV_51 (by omega) hHV_51.1) yw_X7_count lk_L_31 rfl (congrArg Prod.fst (tt_0 hT)) hc_7 rfl dL_grows_66 rfl (Nat.le_of_ble_eq_true rfl) (by decide) ⟨Nat.le_refl _, Nat.le_refl _⟩ ?_
    have hct_66 := hCT2 (w9 := 8) (by omega)
    have hck_66 : ctX (opR r (gwO r f n)) (svN s) 8 = (opR r (gwO r f n)) 0 := rfl
    refine M_iload (pc := 69) C dL_grows_69 rfl ?_
    refine M_iload (pc := 71) C dL_grows_71 rfl ?_
    refine M_if_ge (pc := 73) C (tgt := 80) (by omega) dL_grows_73 (by decide) (fun h_73 => ?_) (fun h_73 => ?_)
    · refine M_iconst (pc := 80) C dL_grows_80 ?_
      refine M_iadd (pc := 81) C dL_grows_81 ?_
      refine M_icmp_eq (pc := 82) C (tgt := 87) (by omega) (by omega) dL_grows_82 (by decide) (fun h_82 => ?_) (fun h_82 => ?_)
      · exact M.to hj_87 rfl rfl rfl
      · exfalso
        omega
    · refine M_iconst (pc := 76) C dL_grows_76 ?_
      refine M_goto (pc := 77) C (tgt := 81) dL_grows_77 (by decide) ?_
      refine M_iadd (pc := 81) C dL_grows_81 ?_
      refine M_icmp_eq (pc := 82) C (tgt := 87) (by omega) (by omega) dL_grows_82 (by decide) (fun h_82 => ?_) (fun h_82 => ?_)
      · exact M.to hj_87 rfl rfl rfl
      · exfalso
        omega
