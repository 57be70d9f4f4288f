set_option maxHeartbeats 8000000 in
theorem c_L_spoils {N : Nat} {T : Ty} {r P : Nat → Int} {c : Int} {s : Nat} {t : Int} {b : Nat} {v : Ct} (hT : TT T) (hV : DV v 1 r c) (hHV : HVr v P s c) (hc : c < 900000) (hN : 84 ≤ N) (ht : FLm t r) (hb : b < 24) (h3 : r (3 + b) ≠ 3) : RunsP mL_spoils 5 1 10 [vR 0, vI t, vI ((b : Nat) : Int)] N T v (N + 1) (newT T N 1 10) (fun r1 v1 => r1 = some (vI 1) ∧ DV v1 1 (rs (spN r ((b : Nat) : Int) 10) (3 + b) 3) c ∧ HVr v1 (svP P r s) (svN s) c) := by
  have hH : DR (v 2) (v 3) (v 4) (v 5) (v 6) (v 7) (v 8) (v 9) r := hV.1
  have hC : CNT (v 1) (v 9) r c := hV.2
  have hs := hHV.1
  have hs6 := hHV.2.1
  have hfr_v : fr v v := fun _ _ => rfl
  obtain ⟨hr0, hr1, hr2, hrP⟩ := hC.bds (by omega)
  have hBI : ∀ {b9 w9 : Nat}, b9 < 24 → w9 < 5 → -1 ≤ biF r b9 w9 ∧ biF r b9 w9 ≤ 24 := fun h1 h2 => hH.biB h1 h2
  have hPR : ∀ {f9 w9 : Nat}, f9 < 10 → ro r f9 0 = 1 → w9 < 7 → -1 ≤ prF r f9 w9 ∧ prF r f9 w9 ≤ 1000000 := fun h1 h2 h3 => hH.prB hrP h1 h2 h3
  have hCT : ∀ {w9 : Nat}, w9 < 12 → 0 ≤ ctX r s w9 ∧ ctX r s w9 ≤ 1000000 := fun h => hH.ctB ⟨by omega, by omega⟩ ⟨by omega, by omega⟩ hr2 hs6 h
  clear hr2
  have htb := ht.1
  obtain ⟨hsv, hs4, hs0, hsx2, hs5, hwk⟩ := hH.splQ hb h3
  have hsb := sumN_bd (g := fun f => Bi (spB r b f)) (a := 1) (by decide) 10 (fun i _ => Bi_bd _)
  have hwb := wkN_b2 (wkB (rs (spN r ((b : Nat) : Int) 10) (3 + b) 3))
  refine RunsP.of (by decide) (Nat.le_of_ble_eq_true rfl) fun κ C => ?_
  refine M_bipush (pc := 0) C (by decide) dL_spoils_0 ?_
  refine M_newI (pc := 2) C ac_int (by decide) ⟨by decide, by decide⟩ dL_spoils_2 ?_
  refine M.toN (N2 := N + 1) (T2 := newT T N 1 10) (k2 := 1) (n2 := 10) ?_ rfl rfl rfl rfl
  refine M.to (pc := 4) (st2 := [vR ((N : Nat) : Int)]) (v2 := sa v N (fun _ => 0)) ?_ rfl rfl rfl
  have hT1 : TT (newT T N 1 10) := hT.nw hN
  have hTN : newT T N 1 10 N = (1, 10, lkN) := newT_n
  have hVx : ∀ X, DV (sa v N X) 1 r c := fun X => hV.same (fun k hk => sa_ne (by omega) _) (fun _ _ => rfl)
  have hsx : ∀ X, sa v N X 10 1 = (s : Int) := fun X => by rw [sa_ne (by omega)]; exact hs
  have hHVx : ∀ X, HVr (sa v N X) P s c := fun X => hHV.same (fun q h1 h2 => sa_ne (by omega) _)
  refine M_astore_n (pc := 4) C dL_spoils_4 (by decide) (by omega) ?_
  refine M.to (L2 := [some (vR 0), some (vI t), some (vI ((b : Nat) : Int)), some (vR ((N : Nat) : Int)), none, none, none, none, none]) ?_ rfl rfl rfl
  refine M_iconst (pc := 5) C dL_spoils_5 ?_
  refine M_istore (pc := 6) C dL_spoils_6 (by decide) ?_
  refine M.to (L2 := [some (vR 0), some (vI t), some (vI ((b : Nat) : Int)), some (vR ((N : Nat) : Int)), some (vI 0), none, none, none, none]) ?_ rfl rfl rfl
  refine M_aload_n (pc := 8) C dL_spoils_8 rfl (by decide) ?_
  refine M_iload_n (pc := 9) C dL_spoils_9 rfl ?_
  refine M_iconst (pc := 10) C dL_spoils_10 ?_
  refine A_cV (pc := 11) C (x := vI (biF r b 0)) (a := 0) (c := 7) (c_X7_blockOf (v := sa v N (fun _ => 0)) (r := r) (c := c) (b := b) (w := 0) hT1 (hVx _) (by omega) (by omega)) yw_X7_blockOf lk_L_24 rfl (congrArg Prod.fst (tt_0 hT1)) hc_7 rfl dL_spoils_11 rfl (Nat.le_of_ble_eq_true rfl) (by decide) ⟨by decide, by decide⟩ ?_
  have hbi_11 := hBI (b9 := b) (w9 := 0) (by omega) (by omega)
  refine M_istore (pc := 14) C dL_spoils_14 (by decide) ?_
  refine M.to (L2 := [some (vR 0), some (vI t), some (vI ((b : Nat) : Int)), some (vR ((N : Nat) : Int)), some (vI 0), some (vI (biF r b 0)), none, none, none]) ?_ rfl rfl rfl
  refine M_aload_n (pc := 16) C dL_spoils_16 rfl (by decide) ?_
  refine M_iload_n (pc := 17) C dL_spoils_17 rfl ?_
  refine M_iconst (pc := 18) C dL_spoils_18 ?_
  refine A_cV (pc := 19) C (x := vI (biF r b 4)) (a := 0) (c := 7) (c_X7_blockOf (v := sa v N (fun _ => 0)) (r := r) (c := c) (b := b) (w := 4) hT1 (hVx _) (by omega) (by omega)) yw_X7_blockOf lk_L_24 rfl (congrArg Prod.fst (tt_0 hT1)) hc_7 rfl dL_spoils_19 rfl (Nat.le_of_ble_eq_true rfl) (by decide) ⟨by decide, by decide⟩ ?_
  have hbi_19 := hBI (b9 := b) (w9 := 4) (by omega) (by omega)
  refine M_istore (pc := 22) C dL_spoils_22 (by decide) ?_
  refine M.to (L2 := [some (vR 0), some (vI t), some (vI ((b : Nat) : Int)), some (vR ((N : Nat) : Int)), some (vI 0), some (vI (biF r b 0)), some (vI (biF r b 4)), none, none]) ?_ rfl rfl rfl
  refine M_iconst (pc := 24) C dL_spoils_24 ?_
  refine M_istore (pc := 25) C dL_spoils_25 (by decide) ?_
  refine M.to (L2 := [some (vR 0), some (vI t), some (vI ((b : Nat) : Int)), some (vR ((N : Nat) : Int)), some (vI 0), some (vI (biF r b 0)), some (vI (biF r b 4)), some (vI 0), none]) ?_ rfl rfl rfl
  refine loop_le (P := fun f => M κ (N + 1) (newT T N 1 10) 27 [some (vR 0), some (vI t), some (vI ((b : Nat) : Int)), some (vR ((N : Nat) : Int)), some (vI (sumN (fun f => Bi (spB r b f)) f)), some (vI (biF r b 0)), some (vI (biF r b 4)), some (vI ((f : Nat) : Int)), none] [] (sa v N (beX r b f)) 1 10 (QP κ (N + 1) (newT T N 1 10) (fun r1 v1 => r1 = some (vI 1) ∧ DV v1 1 (rs (spN r ((b : Nat) : Int) 10) (3 + b) 3) c ∧ HVr v1 (svP P r s) (svN s) c) 1 10)) 10 (fun f hf10 ihf => ?_)
  refine M_iload (pc := 27) C dL_spoils_27 rfl ?_
  refine M_bipush (pc := 29) C (by decide) dL_spoils_29 ?_
  refine M_icmp_ge (pc := 31) C (tgt := 148) (by omega) (by omega) dL_spoils_31 (by decide) (fun h_31 => ?_) (fun h_31 => ?_)
  · have hfe : f = 10 := by omega
    subst hfe
    refine M_aload_n (pc := 148) C dL_spoils_148 rfl (by decide) ?_
    refine M_iconst (pc := 149) C dL_spoils_149 ?_
    refine A_cV (pc := 150) C (x := vI (ctX r s 4)) (a := 0) (c := 7) (c_X7_count (v := sa v N (beX r b 10)) (r := r) (c := c) (s := s) (w := 4) hT1 (hVx _) (by omega) (hsx _)) yw_X7_count lk_L_31 rfl (congrArg Prod.fst (tt_0 hT1)) hc_7 rfl dL_spoils_150 rfl (Nat.le_of_ble_eq_true rfl) (by decide) ⟨by decide, by decide⟩ ?_
    have hct_150 := hCT (w9 := 4) (by omega)
    have hck_150 : ctX r s 4 = cntK r 3 := rfl
    refine M_istore (pc := 153) C dL_spoils_153 (by decide) ?_
    refine M.to (L2 := [some (vR 0), some (vI t), some (vI ((b : Nat) : Int)), some (vR ((N : Nat) : Int)), some (vI (sumN (fun f => Bi (spB r b f)) 10)), some (vI (biF r b 0)), some (vI (biF r b 4)), some (vI (ctX r s 4)), none]) ?_ rfl rfl rfl
    refine M_aload_n (pc := 155) C dL_spoils_155 rfl (by decide) ?_
    refine M_iload_n (pc := 156) C dL_spoils_156 rfl ?_
    refine A_pV (pc := 157) C (a := 0) (c := 7) (c_X7_spoil (v := sa v N (beX r b 10)) (r := r) (P := P) (c := c) (s := s) hT1 (hVx _) (hHVx _) (by omega) (b := b) (by omega) h3) yw_X7_spoil lk_L_68 rfl (congrArg Prod.fst (tt_0 hT1)) hc_7 rfl dL_spoils_157 rfl (Nat.le_of_ble_eq_true rfl) (by decide) ⟨by decide, by decide⟩ (fun r_157 v_157 p_157 => ?_)
    obtain ⟨rfl, hV_157, hHV_157, hfs_157⟩ := p_157
    refine M.to (pc := 160) (st2 := [vI (spV r ((b : Nat) : Int) 10)]) (v2 := v_157) ?_ rfl rfl rfl
    have hH2 := hV_157.1
    obtain ⟨hq0, hq1, hq2, hqP⟩ := CNT.bds hV_157.2 (by omega)
    have hs62 : svN s ≤ 6 := hHV_157.2.1
    have hBI2 : ∀ {b9 w9 : Nat}, b9 < 24 → w9 < 5 → -1 ≤ biF (rs (spN r ((b : Nat) : Int) 10) (3 + b) 3) b9 w9 ∧ biF (rs (spN r ((b : Nat) : Int) 10) (3 + b) 3) b9 w9 ≤ 24 := fun h1 h2 => hH2.biB h1 h2
    have hPR2 : ∀ {f9 w9 : Nat}, f9 < 10 → ro (rs (spN r ((b : Nat) : Int) 10) (3 + b) 3) f9 0 = 1 → w9 < 7 → -1 ≤ prF (rs (spN r ((b : Nat) : Int) 10) (3 + b) 3) f9 w9 ∧ prF (rs (spN r ((b : Nat) : Int) 10) (3 + b) 3) f9 w9 ≤ 1000000 := fun h1 h2 h3 => hH2.prB hqP h1 h2 h3
    have hCT2 : ∀ {w9 : Nat}, w9 < 12 → 0 ≤ ctX (rs (spN r ((b : Nat) : Int) 10) (3 + b) 3) (svN s) w9 ∧ ctX (rs (spN r ((b : Nat) : Int) 10) (3 + b) 3) (svN s) w9 ≤ 1000000 := fun h => hH2.ctB ⟨by omega, by omega⟩ ⟨by omega, by omega⟩ hq2 hs62 h
    clear hq2
    have hbe : ∀ g, g < 10 → v_157 N g = Bi (bfB r b g) := fun g hg => by rw [hfs_157 N (Or.inr hN), sa_eq, beX_at 10 g hg]
    refine M_iload (pc := 160) C dL_spoils_160 rfl ?_
    refine M_icmp_ne (pc := 162) C (tgt := 177) (by omega) (by omega) dL_spoils_162 (by decide) (fun h_162 => ?_) (fun h_162 => ?_)
    · exfalso
      omega
    · refine M_aload_n (pc := 165) C dL_spoils_165 rfl (by decide) ?_
      refine M_iconst (pc := 166) C dL_spoils_166 ?_
      refine A_cV (pc := 167) C (x := vI (ctX (rs (spN r ((b : Nat) : Int) 10) (3 + b) 3) (svN s) 4)) (a := 0) (c := 7) (c_X7_count (v := v_157) (r := rs (spN r ((b : Nat) : Int) 10) (3 + b) 3) (c := c) (s := svN s) (w := 4) hT1 hV_157 (by omega) hHV_157.1) yw_X7_count lk_L_31 rfl (congrArg Prod.fst (tt_0 hT1)) hc_7 rfl dL_spoils_167 rfl (Nat.le_of_ble_eq_true rfl) (by decide) ⟨by decide, by decide⟩ ?_
      have hct_167 := hCT2 (w9 := 4) (by omega)
      have hck_167 : ctX (rs (spN r ((b : Nat) : Int) 10) (3 + b) 3) (svN s) 4 = cntK (rs (spN r ((b : Nat) : Int) 10) (3 + b) 3) 3 := rfl
      refine M_iload (pc := 170) C dL_spoils_170 rfl ?_
      refine M_iconst (pc := 172) C dL_spoils_172 ?_
      refine M_iadd (pc := 173) C dL_spoils_173 ?_
      refine M_icmp_eq (pc := 174) C (tgt := 179) (by omega) (by omega) dL_spoils_174 (by decide) (fun h_174 => ?_) (fun h_174 => ?_)
      · refine M_iconst (pc := 179) C dL_spoils_179 ?_
        refine M_istore (pc := 180) C dL_spoils_180 (by decide) ?_
        refine M.to (L2 := [some (vR 0), some (vI t), some (vI ((b : Nat) : Int)), some (vR ((N : Nat) : Int)), some (vI (sumN (fun f => Bi (spB r b f)) 10)), some (vI (biF r b 0)), some (vI (biF r b 4)), some (vI (ctX r s 4)), some (vI 0)]) ?_ rfl rfl rfl
        refine loop_le (P := fun g => M κ (N + 1) (newT T N 1 10) 182 [some (vR 0), some (vI t), some (vI ((b : Nat) : Int)), some (vR ((N : Nat) : Int)), some (vI (sumN (fun f => Bi (spB r b f)) 10)), some (vI (biF r b 0)), some (vI (biF r b 4)), some (vI (ctX r s 4)), some (vI ((g : Nat) : Int))] [] v_157 1 10 (QP κ (N + 1) (newT T N 1 10) (fun r1 v1 => r1 = some (vI 1) ∧ DV v1 1 (rs (spN r ((b : Nat) : Int) 10) (3 + b) 3) c ∧ HVr v1 (svP P r s) (svN s) c) 1 10)) 10 (fun g hg10 ihg => ?_)
        refine M_iload (pc := 182) C dL_spoils_182 rfl ?_
        refine M_bipush (pc := 184) C (by decide) dL_spoils_184 ?_
        refine M_icmp_ge (pc := 186) C (tgt := 220) (by omega) (by omega) dL_spoils_186 (by decide) (fun h_186 => ?_) (fun h_186 => ?_)
        · refine M_aload_n (pc := 220) C dL_spoils_220 rfl (by decide) ?_
          refine A_cV (pc := 221) C (x := vI ((wkN (wkB (rs (spN r ((b : Nat) : Int) 10) (3 + b) 3)) 24).1)) (a := 0) (c := 7) (c_X7_weakestR (v := v_157) (r := rs (spN r ((b : Nat) : Int) 10) (3 + b) 3) (c := c) hT1 hV_157) yw_X7_weakest lk_L_71 rfl (congrArg Prod.fst (tt_0 hT1)) hc_7 rfl dL_spoils_221 rfl (Nat.le_of_ble_eq_true rfl) (by decide) ⟨by decide, by decide⟩ ?_
          refine M_iload_n (pc := 224) C dL_spoils_224 rfl ?_
          refine M_icmp_eq (pc := 225) C (tgt := 232) (by omega) (by omega) dL_spoils_225 (by decide) (fun h_225 => ?_) (fun h_225 => ?_)
          · exact absurd h_225 hwk
          · refine M_iconst (pc := 228) C dL_spoils_228 ?_
            refine M_goto (pc := 229) C (tgt := 233) dL_spoils_229 (by decide) ?_
            exact M_zretP (pc := 233) C rfl (Or.inr rfl) dL_spoils_233 ⟨rfl, hV_157, hHV_157⟩
        · refine M_iload_n (pc := 189) C dL_spoils_189 rfl ?_
          refine M_iload (pc := 190) C dL_spoils_190 rfl ?_
          refine A_cS (pc := 192) C (x := vI (Bi (btB t g))) (c_L_has (v := v_157) (t := t) (f := g) hT1 (by omega) (by omega)) yw_L_has lk_L_9 rfl dL_spoils_192 rfl (Nat.le_of_ble_eq_true rfl) (by decide) ⟨by decide, by decide⟩ ?_
          refine M_if_eq (pc := 195) C (tgt := 214) (Bi_i32 _) dL_spoils_195 (by decide) (fun h_195 => ?_) (fun h_195 => ?_)
          · have b_195 := Bi_eq0 h_195
            refine M_iinc (pc := 214) C dL_spoils_214 rfl (by decide) ?_
            refine M.to (L2 := [some (vR 0), some (vI t), some (vI ((b : Nat) : Int)), some (vR ((N : Nat) : Int)), some (vI (sumN (fun f => Bi (spB r b f)) 10)), some (vI (biF r b 0)), some (vI (biF r b 4)), some (vI (ctX r s 4)), some (vI (((g : Nat) : Int) + 1))]) ?_ rfl rfl rfl
            refine M_goto (pc := 217) C (tgt := 182) dL_spoils_217 (by decide) ?_
            exact M.to (ihg (by omega)) rfl rfl rfl
          · have b_195 := Bi_ne0 h_195
            have hfi : ro r g 0 = 1 := by rw [ht.bt (by omega)] at b_195; exact of_decide_eq_true b_195
            have hfi2 : ro (rs (spN r ((b : Nat) : Int) 10) (3 + b) 3) g 0 = 1 := (hsx2 g (by omega)).trans hfi
            refine M_aload_n (pc := 198) C dL_spoils_198 rfl (by decide) ?_
            refine M_iload (pc := 199) C dL_spoils_199 rfl ?_
            refine M_iconst (pc := 201) C dL_spoils_201 ?_
            refine A_cV (pc := 202) C (x := vI (prF (rs (spN r ((b : Nat) : Int) 10) (3 + b) 3) g 5)) (a := 0) (c := 7) (c_X7_fileOf (v := v_157) (r := rs (spN r ((b : Nat) : Int) 10) (3 + b) 3) (c := c) (f := g) (w := 5) hT1 hV_157 (by omega) hfi2 (by omega)) yw_X7_fileOf lk_L_15 rfl (congrArg Prod.fst (tt_0 hT1)) hc_7 rfl dL_spoils_202 rfl (Nat.le_of_ble_eq_true rfl) (by decide) ⟨by decide, by decide⟩ ?_
            have hpr_202 := hPR2 (f9 := g) (w9 := 5) (by omega) hfi2 (by omega)
            refine M_aload_n (pc := 205) C dL_spoils_205 rfl (by omega) ?_
            refine M_iload (pc := 206) C dL_spoils_206 rfl ?_
            refine A_iald (pc := 208) C (a := N) (q := g) rfl hTN (by decide) rfl (by omega) dL_spoils_208 (fun (r_208 : i32 (v_157 N g)) => ?_)
            refine M.to (st2 := [vI (Bi (bfB r b g)), vI (prF (rs (spN r ((b : Nat) : Int) 10) (3 + b) 3) g 5)]) ?_ rfl (by rw [hbe g (by omega)]) rfl
            have hbb := Bi_bd (bfB r b g)
            refine M_icmp_eq (pc := 209) C (tgt := 214) (by omega) (by omega) dL_spoils_209 (by decide) (fun h_209 => ?_) (fun h_209 => ?_)
            · refine M_iinc (pc := 214) C dL_spoils_214 rfl (by decide) ?_
              refine M.to (L2 := [some (vR 0), some (vI t), some (vI ((b : Nat) : Int)), some (vR ((N : Nat) : Int)), some (vI (sumN (fun f => Bi (spB r b f)) 10)), some (vI (biF r b 0)), some (vI (biF r b 4)), some (vI (ctX r s 4)), some (vI (((g : Nat) : Int) + 1))]) ?_ rfl rfl rfl
              refine M_goto (pc := 217) C (tgt := 182) dL_spoils_217 (by decide) ?_
              exact M.to (ihg (by omega)) rfl rfl rfl
            · exact absurd (hs5 g (by omega) hfi) h_209
      · exfalso
        omega
  · have hj_91 : M κ (N + 1) (newT T N 1 10) 91 [some (vR 0), some (vI t), some (vI ((b : Nat) : Int)), some (vR ((N : Nat) : Int)), some (vI (sumN (fun f => Bi (spB r b f)) f)), some (vI (biF r b 0)), some (vI (biF r b 4)), some (vI ((f : Nat) : Int)), none] [vI (Bi (spB r b f))] (sa v N (beX r b f)) 1 10 (QP κ (N + 1) (newT T N 1 10) (fun r1 v1 => r1 = some (vI 1) ∧ DV v1 1 (rs (spN r ((b : Nat) : Int) 10) (3 + b) 3) c ∧ HVr v1 (svP P r s) (svN s) c) 1 10) := by
      refine M_istore (pc := 91) C dL_spoils_91 (by decide) ?_
      refine M.to (L2 := [some (vR 0), some (vI t), some (vI ((b : Nat) : Int)), some (vR ((N : Nat) : Int)), some (vI (sumN (fun f => Bi (spB r b f)) f)), some (vI (biF r b 0)), some (vI (biF r b 4)), some (vI ((f : Nat) : Int)), some (vI (Bi (spB r b f)))]) ?_ rfl rfl rfl
      refine M_aload_n (pc := 93) C dL_spoils_93 rfl (by omega) ?_
      refine M_iload (pc := 94) C dL_spoils_94 rfl ?_
      have hj_126 : M κ (N + 1) (newT T N 1 10) 126 [some (vR 0), some (vI t), some (vI ((b : Nat) : Int)), some (vR ((N : Nat) : Int)), some (vI (sumN (fun f => Bi (spB r b f)) f)), some (vI (biF r b 0)), some (vI (biF r b 4)), some (vI ((f : Nat) : Int)), some (vI (Bi (spB r b f)))] [vI (Bi (bfB r b f)), vI ((f : Nat) : Int), vR ((N : Nat) : Int)] (sa v N (beX r b f)) 1 10 (QP κ (N + 1) (newT T N 1 10) (fun r1 v1 => r1 = some (vI 1) ∧ DV v1 1 (rs (spN r ((b : Nat) : Int) 10) (3 + b) 3) c ∧ HVr v1 (svP P r s) (svN s) c) 1 10) := by
        refine A_iast (pc := 126) C (a := N) (q := f) rfl hTN (by decide) rfl (by omega) (Bi_i32 _) dL_spoils_126 ?_
        refine M.to (pc := 127) (v2 := sa v N (rs (beX r b f) f (Bi (bfB r b f)))) ?_ rfl rfl (by rw [sa_up0])
        refine M_iload (pc := 127) C dL_spoils_127 rfl ?_
        refine M_iload (pc := 129) C dL_spoils_129 rfl ?_
        refine T_eq (pc := 131) C dL_spoils_131 dL_spoils_134 dL_spoils_135 dL_spoils_138 ?_
        refine M_iadd (pc := 139) C dL_spoils_139 ?_
        refine M_istore (pc := 140) C dL_spoils_140 (by decide) ?_
        refine M.to (L2 := [some (vR 0), some (vI t), some (vI ((b : Nat) : Int)), some (vR ((N : Nat) : Int)), some (vI ((sumN (fun f => Bi (spB r b f)) f) + (Bi (spB r b f)))), some (vI (biF r b 0)), some (vI (biF r b 4)), some (vI ((f : Nat) : Int)), some (vI (Bi (spB r b f)))]) ?_ rfl rfl rfl
        refine M_iinc (pc := 142) C dL_spoils_142 rfl (by decide) ?_
        refine M.to (L2 := [some (vR 0), some (vI t), some (vI ((b : Nat) : Int)), some (vR ((N : Nat) : Int)), some (vI ((sumN (fun f => Bi (spB r b f)) f) + (Bi (spB r b f)))), some (vI (biF r b 0)), some (vI (biF r b 4)), some (vI (((f : Nat) : Int) + 1)), some (vI (Bi (spB r b f)))]) ?_ rfl rfl rfl
        refine M_goto (pc := 145) C (tgt := 27) dL_spoils_145 (by decide) ?_
        refine M.drop [true, true, true, true, true, true, true, true, false] rfl ?_
        exact M.to (ihf (by omega)) rfl rfl rfl
      refine M_iload_n (pc := 96) C dL_spoils_96 rfl ?_
      refine M_iload (pc := 97) C dL_spoils_97 rfl ?_
      refine A_cS (pc := 99) C (x := vI (Bi (btB t f))) (c_L_has (v := sa v N (beX r b f)) (t := t) (f := f) hT1 (by omega) (by omega)) yw_L_has lk_L_9 rfl dL_spoils_99 rfl (Nat.le_of_ble_eq_true rfl) (by decide) ⟨by decide, by decide⟩ ?_
      refine M_if_eq (pc := 102) C (tgt := 125) (Bi_i32 _) dL_spoils_102 (by decide) (fun h_102 => ?_) (fun h_102 => ?_)
      · have b_102 := Bi_eq0 h_102
        have hnf : ¬ ro r f 0 = 1 := fun q => by rw [ht.bt (by omega), decide_eq_true q] at b_102; cases b_102
        refine M_iconst (pc := 125) C dL_spoils_125 ?_
        exact M.to hj_126 rfl (by first | (rw [bfB_t hfi (Or.inl b_107)]; rfl) | (rw [bfB_t hfi (Or.inr (by omega))]; rfl) | (rw [bfB_f (fun q => absurd q hnf)]; rfl) | (rw [bfB_f (fun _ => ⟨b_107, by omega⟩)]; rfl)) rfl
      · have b_102 := Bi_ne0 h_102
        have hfi : ro r f 0 = 1 := by rw [ht.bt (by omega)] at b_102; exact of_decide_eq_true b_102
        refine M_iload (pc := 105) C dL_spoils_105 rfl ?_
        refine M_if_ne (pc := 107) C (tgt := 121) (Bi_i32 _) dL_spoils_107 (by decide) (fun h_107 => ?_) (fun h_107 => ?_)
        · have b_107 := Bi_ne0 h_107
          refine M_iconst (pc := 121) C dL_spoils_121 ?_
          refine M_goto (pc := 122) C (tgt := 126) dL_spoils_122 (by decide) ?_
          exact M.to hj_126 rfl (by first | (rw [bfB_t hfi (Or.inl b_107)]; rfl) | (rw [bfB_t hfi (Or.inr (by omega))]; rfl) | (rw [bfB_f (fun q => absurd q hnf)]; rfl) | (rw [bfB_f (fun _ => ⟨b_107, by omega⟩)]; rfl)) rfl
        · have b_107 := Bi_eq0 h_107
          refine M_aload_n (pc := 110) C dL_spoils_110 rfl (by decide) ?_
          refine M_iload (pc := 111) C dL_spoils_111 rfl ?_
          refine M_iconst (pc := 113) C dL_spoils_113 ?_
          refine A_cV (pc := 114) C (x := vI (prF r f 5)) (a := 0) (c := 7) (c_X7_fileOf (v := sa v N (beX r b f)) (r := r) (c := c) (f := f) (w := 5) hT1 (hVx _) (by omega) hfi (by omega)) yw_X7_fileOf lk_L_15 rfl (congrArg Prod.fst (tt_0 hT1)) hc_7 rfl dL_spoils_114 rfl (Nat.le_of_ble_eq_true rfl) (by decide) ⟨by decide, by decide⟩ ?_
          have hpr_114 := hPR (f9 := f) (w9 := 5) (by omega) hfi (by omega)
          refine M_iconst (pc := 117) C dL_spoils_117 ?_
          refine M_icmp_ne (pc := 118) C (tgt := 125) (by omega) (by omega) dL_spoils_118 (by decide) (fun h_118 => ?_) (fun h_118 => ?_)
          · refine M_iconst (pc := 125) C dL_spoils_125 ?_
            exact M.to hj_126 rfl (by first | (rw [bfB_t hfi (Or.inl b_107)]; rfl) | (rw [bfB_t hfi (Or.inr (by omega))]; rfl) | (rw [bfB_f (fun q => absurd q hnf)]; rfl) | (rw [bfB_f (fun _ => ⟨b_107, by omega⟩)]; rfl)) rfl
          · refine M_iconst (pc := 121) C dL_spoils_121 ?_
            refine M_goto (pc := 122) C (tgt := 126) dL_spoils_122 (by decide) ?_
            exact M.to hj_126 rfl (by first | (rw [bfB_t hfi (Or.inl b_107)]; rfl) | (rw [bfB_t hfi (Or.inr (by omega))]; rfl) | (rw [bfB_f (fun q => absurd q hnf)]; rfl) | (rw [bfB_f (fun _ => ⟨b_107, by omega⟩)]; rfl)) rfl
    refine M_iload_n (pc := 34) C dL_spoils_34 rfl ?_
    refine M_iload (pc := 35) C dL_spoils_35 rfl ?_
    refine A_cS (pc := 37) C (x := vI (Bi (btB t f))) (c_L_has (v := sa v N (beX r b f)) (t := t) (f := f) hT1 (by omega) (by omega)) yw_L_has lk_L_9 rfl dL_spoils_37 rfl (Nat.le_of_ble_eq_true rfl) (by decide) ⟨by decide, by decide⟩ ?_
    refine M_if_eq (pc := 40) C (tgt := 90) (Bi_i32 _) dL_spoils_40 (by decide) (fun h_40 => ?_) (fun h_40 => ?_)
    · have b_40 := Bi_eq0 h_40
      have hnf : ¬ ro r f 0 = 1 := fun q => by rw [ht.bt (by omega), decide_eq_true q] at b_40; cases b_40
      refine M_iconst (pc := 90) C dL_spoils_90 ?_
      exact M.to hj_91 rfl (by first | (rw [spB_t hfi (by omega) (by omega)]; rfl) | (rw [spB_f (fun q1 q2 q3 => by omega)]; rfl)) rfl
    · have b_40 := Bi_ne0 h_40
      have hfi : ro r f 0 = 1 := by rw [ht.bt (by omega)] at b_40; exact of_decide_eq_true b_40
      refine M_aload_n (pc := 43) C dL_spoils_43 rfl (by decide) ?_
      refine M_iload (pc := 44) C dL_spoils_44 rfl ?_
      refine M_iconst (pc := 46) C dL_spoils_46 ?_
      refine A_cV (pc := 47) C (x := vI (prF r f 5)) (a := 0) (c := 7) (c_X7_fileOf (v := sa v N (beX r b f)) (r := r) (c := c) (f := f) (w := 5) hT1 (hVx _) (by omega) hfi (by omega)) yw_X7_fileOf lk_L_15 rfl (congrArg Prod.fst (tt_0 hT1)) hc_7 rfl dL_spoils_47 rfl (Nat.le_of_ble_eq_true rfl) (by decide) ⟨by decide, by decide⟩ ?_
      have hpr_47 := hPR (f9 := f) (w9 := 5) (by omega) hfi (by omega)
      refine M_if_ne (pc := 50) C (tgt := 90) (by omega) dL_spoils_50 (by decide) (fun h_50 => ?_) (fun h_50 => ?_)
      · refine M_iconst (pc := 90) C dL_spoils_90 ?_
        exact M.to hj_91 rfl (by first | (rw [spB_t hfi (by omega) (by omega)]; rfl) | (rw [spB_f (fun q1 q2 q3 => by omega)]; rfl)) rfl
      · refine M_iload (pc := 53) C dL_spoils_53 rfl ?_
        refine M_iconst (pc := 55) C dL_spoils_55 ?_
        refine M_icmp_ne (pc := 56) C (tgt := 69) (by omega) (by omega) dL_spoils_56 (by decide) (fun h_56 => ?_) (fun h_56 => ?_)
        · refine M_iload (pc := 69) C dL_spoils_69 rfl ?_
          refine M_iconst (pc := 71) C dL_spoils_71 ?_
          refine M_icmp_ne (pc := 72) C (tgt := 90) (by omega) (by omega) dL_spoils_72 (by decide) (fun h_72 => ?_) (fun h_72 => ?_)
          · refine M_iconst (pc := 90) C dL_spoils_90 ?_
            exact M.to hj_91 rfl (by first | (rw [spB_t hfi (by omega) (by omega)]; rfl) | (rw [spB_f (fun q1 q2 q3 => by omega)]; rfl)) rfl
          · refine M_aload_n (pc := 75) C dL_spoils_75 rfl (by decide) ?_
            refine M_iload (pc := 76) C dL_spoils_76 rfl ?_
            refine M_iconst (pc := 78) C dL_spoils_78 ?_
            refine A_cV (pc := 79) C (x := vI (prF r f 3)) (a := 0) (c := 7) (c_X7_fileOf (v := sa v N (beX r b f)) (r := r) (c := c) (f := f) (w := 3) hT1 (hVx _) (by omega) hfi (by omega)) yw_X7_fileOf lk_L_15 rfl (congrArg Prod.fst (tt_0 hT1)) hc_7 rfl dL_spoils_79 rfl (Nat.le_of_ble_eq_true rfl) (by decide) ⟨by decide, by decide⟩ ?_
            have hpr_79 := hPR (f9 := f) (w9 := 3) (by omega) hfi (by omega)
            refine M_iload_n (pc := 82) C dL_spoils_82 rfl ?_
            refine M_icmp_ne (pc := 83) C (tgt := 90) (by omega) (by omega) dL_spoils_83 (by decide) (fun h_83 => ?_) (fun h_83 => ?_)
            · refine M_iconst (pc := 90) C dL_spoils_90 ?_
              exact M.to hj_91 rfl (by first | (rw [spB_t hfi (by omega) (by omega)]; rfl) | (rw [spB_f (fun q1 q2 q3 => by omega)]; rfl)) rfl
            · refine M_iconst (pc := 86) C dL_spoils_86 ?_
              refine M_goto (pc := 87) C (tgt := 91) dL_spoils_87 (by decide) ?_
              exact M.to hj_91 rfl (by first | (rw [spB_t hfi (by omega) (by omega)]; rfl) | (rw [spB_f (fun q1 q2 q3 => by omega)]; rfl)) rfl
        · refine M_iload (pc := 59) C dL_spoils_59 rfl ?_
          refine M_iload (pc := 61) C dL_spoils_61 rfl ?_
          refine M_icmp_ne (pc := 63) C (tgt := 90) (by omega) (by omega) dL_spoils_63 (by decide) (fun h_63 => ?_) (fun h_63 => ?_)
          · refine M_iconst (pc := 90) C dL_spoils_90 ?_
            exact M.to hj_91 rfl (by first | (rw [spB_t hfi (by omega) (by omega)]; rfl) | (rw [spB_f (fun q1 q2 q3 => by omega)]; rfl)) rfl
          · refine M_goto (pc := 66) C (tgt := 86) dL_spoils_66 (by decide) ?_
            refine M_iconst (pc := 86) C dL_spoils_86 ?_
            refine M_goto (pc := 87) C (tgt := 91) dL_spoils_87 (by decide) ?_
            exact M.to hj_91 rfl (by first | (rw [spB_t hfi (by omega) (by omega)]; rfl) | (rw [spB_f (fun q1 q2 q3 => by omega)]; rfl)) rfl
