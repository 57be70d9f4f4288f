theorem DR.sz200 {K O Rk Z B S W P r : Nat → Int} (H : DR K O Rk Z B S W P r) {f : Nat} (hf : f < 10) : szF r f ≤ 200 := by
  by_cases h : ro r f 0 = 1
  · have := szF_yes H hf h
    omega
  · rw [szF_no h]
    decide
set_option maxHeartbeats 8000000 in
theorem c_L_places {N : Nat} {T : Ty} {r P : Nat → Int} {c : Int} {s : Nat} {t : Int} {v : Ct} (hT : TT T) (hV : DV v 1 r c) (hHV : HVr v P s c) (hc : c < 900000) (hN : 84 ≤ N) (ht : FLm t r) (hk : PLk r) : RunsP mL_places 6 2 28 [vR 0, vI t] N T v (N + 1 + 1) (newT (newT T N 1 24) (N + 1) 1 4) (fun r1 v1 => r1 = some (vI 1) ∧ ∀ x, x < N → v1 x = v x) := by
  have hH : DR (v 2) (v 3) (v 4) (v 5) (v 6) (v 7) (v 8) (v 9) r := hV.1
  have hC : CNT (v 1) (v 9) r c := hV.2
  have hs := hHV.1
  have hs6 := hHV.2.1
  have hfr_v : fr v v := fun _ _ => rfl
  obtain ⟨hr0, hr1, hr2, hrP⟩ := hC.bds (by omega)
  have hBI : ∀ {b9 w9 : Nat}, b9 < 24 → w9 < 5 → -1 ≤ biF r b9 w9 ∧ biF r b9 w9 ≤ 24 := fun h1 h2 => hH.biB h1 h2
  have hPR : ∀ {f9 w9 : Nat}, f9 < 10 → ro r f9 0 = 1 → w9 < 7 → -1 ≤ prF r f9 w9 ∧ prF r f9 w9 ≤ 1000000 := fun h1 h2 h3 => hH.prB hrP h1 h2 h3
  have hCT : ∀ {w9 : Nat}, w9 < 12 → 0 ≤ ctX r s w9 ∧ ctX r s w9 ≤ 1000000 := fun h => hH.ctB ⟨by omega, by omega⟩ ⟨by omega, by omega⟩ hr2 hs6 h
  clear hr2
  have htb := ht.1
  have hg5 := hH.gc5
  refine RunsP.of (by decide) (Nat.le_of_ble_eq_true rfl) fun κ C => ?_
  refine M_bipush (pc := 0) C (by decide) dL_places_0 ?_
  refine M_newI (pc := 2) C ac_int (by decide) ⟨by decide, by decide⟩ dL_places_2 ?_
  refine M.toN (N2 := N + 1) (T2 := newT T N 1 24) (k2 := 1) (n2 := 24) ?_ rfl rfl rfl rfl
  refine M.to (pc := 4) (st2 := [vR ((N : Nat) : Int)]) (v2 := sa v N (fun _ => 0)) ?_ rfl rfl rfl
  have hT1 : TT (newT T N 1 24) := hT.nw hN
  have hTN : newT T N 1 24 N = (1, 24, lkN) := newT_n
  have hVx : ∀ X, DV (sa v N X) 1 r c := fun X => hV.same (fun k hk => sa_ne (by omega) _) (fun _ _ => rfl)
  have hsx : ∀ X, sa v N X 10 1 = (s : Int) := fun X => by rw [sa_ne (by omega)]; exact hs
  have hHVx : ∀ X, HVr (sa v N X) P s c := fun X => hHV.same (fun q h1 h2 => sa_ne (by omega) _)
  refine M_astore_n (pc := 4) C dL_places_4 (by decide) (by omega) ?_
  refine M.to (L2 := [some (vR 0), some (vI t), some (vR ((N : Nat) : Int)), none, none, none, none, none, none, none]) ?_ rfl rfl rfl
  refine M_iconst (pc := 5) C dL_places_5 ?_
  refine M_istore_n (pc := 6) C dL_places_6 (by decide) ?_
  refine M.to (L2 := [some (vR 0), some (vI t), some (vR ((N : Nat) : Int)), some (vI 0), none, none, none, none, none, none]) ?_ rfl rfl rfl
  refine M_iconst (pc := 7) C dL_places_7 ?_
  refine M_istore (pc := 8) C dL_places_8 (by decide) ?_
  refine M.to (L2 := [some (vR 0), some (vI t), some (vR ((N : Nat) : Int)), some (vI 0), some (vI 0), none, none, none, none, none]) ?_ rfl rfl rfl
  refine M_iconst (pc := 10) C dL_places_10 ?_
  refine M_istore (pc := 11) C dL_places_11 (by decide) ?_
  refine M.to (L2 := [some (vR 0), some (vI t), some (vR ((N : Nat) : Int)), some (vI 0), some (vI 0), some (vI 0), none, none, none, none]) ?_ rfl rfl rfl
  refine loop_le (P := fun f => M κ (N + 1) (newT T N 1 24) 13 [some (vR 0), some (vI t), some (vR ((N : Nat) : Int)), some (vI ((fiC r f : Nat) : Int)), some (vI (sumN (fun g => Bi (brB r g)) f)), some (vI ((f : Nat) : Int)), none, none, none, none] [] (sa v N (fiX r f)) 1 24 (QP κ (N + 1 + 1) (newT (newT T N 1 24) (N + 1) 1 4) (fun r1 v1 => r1 = some (vI 1) ∧ ∀ x, x < N → v1 x = v x) 2 28)) 10 (fun f hf10 ihf => ?_)
  refine M_iload (pc := 13) C dL_places_13 rfl ?_
  refine M_bipush (pc := 15) C (by decide) dL_places_15 ?_
  refine M_icmp_ge (pc := 17) C (tgt := 305) (by omega) (by omega) dL_places_17 (by decide) (fun h_17 => ?_) (fun h_17 => ?_)
  · have hfe : f = 10 := by omega
    subst hfe
    have hct7 := hCT (w9 := 7) (by decide)
    have hck7 : ctX r s 7 = sumN (fun g => Bi (brB r g)) 10 := rfl
    have hfc := hCT (w9 := 5) (by decide)
    have hck5 : ctX r s 5 = gcF r := rfl
    refine M_aload_n (pc := 305) C dL_places_305 rfl (by decide) ?_
    refine M_iconst (pc := 306) C dL_places_306 ?_
    refine A_cV (pc := 307) C (x := vI (ctX r s 5)) (a := 0) (c := 7) (c_X7_count (v := sa v N (fiX r 10)) (r := r) (c := c) (s := s) (w := 5) hT1 (hVx _) (by omega) (hsx _)) yw_X7_count lk_L_31 rfl (congrArg Prod.fst (tt_0 hT1)) hc_7 rfl dL_places_307 rfl (Nat.le_of_ble_eq_true rfl) (by decide) ⟨by decide, by decide⟩ ?_
    have hct_307 := hCT (w9 := 5) (by omega)
    have hck_307 : ctX r s 5 = gcF r := rfl
    refine M_iload_n (pc := 310) C dL_places_310 rfl ?_
    refine M_icmp_ne (pc := 311) C (tgt := 337) (by omega) (by omega) dL_places_311 (by decide) (fun h_311 => ?_) (fun h_311 => ?_)
    · exfalso
      omega
    · refine M_aload_n (pc := 314) C dL_places_314 rfl (by decide) ?_
      refine M_bipush (pc := 315) C (by decide) dL_places_315 ?_
      refine A_cV (pc := 317) C (x := vI (ctX r s 7)) (a := 0) (c := 7) (c_X7_count (v := sa v N (fiX r 10)) (r := r) (c := c) (s := s) (w := 7) hT1 (hVx _) (by omega) (hsx _)) yw_X7_count lk_L_31 rfl (congrArg Prod.fst (tt_0 hT1)) hc_7 rfl dL_places_317 rfl (Nat.le_of_ble_eq_true rfl) (by decide) ⟨by decide, by decide⟩ ?_
      have hct_317 := hCT (w9 := 7) (by omega)
      have hck_317 : ctX r s 7 = sumN (fun f => Bi (brB r f)) 10 := rfl
      refine M_iload (pc := 320) C dL_places_320 rfl ?_
      refine M_icmp_ne (pc := 322) C (tgt := 337) (by omega) (by omega) dL_places_322 (by decide) (fun h_322 => ?_) (fun h_322 => ?_)
      · exfalso
        omega
      · refine M_aload_n (pc := 325) C dL_places_325 rfl (by decide) ?_
        refine M_aload_n (pc := 326) C dL_places_326 rfl (by omega) ?_
        refine M_callS (pc := 327) C (c_L_blocks (v := sa v N (fiX r 10)) (r := r) (c := c) (P := P) (s := s) (a := N) hT1 (hVx _) (hHVx _) hc (by omega) (by omega) hTN (by rw [sa_eq]; exact (hH.fiOC 10 (Nat.le_refl _)).1)) yw_L_blocks lk_L_35 rfl dL_places_327 rfl (Nat.le_of_ble_eq_true rfl) (by decide) ⟨by decide, by decide⟩ (fun r3 v3 p3 => ?_)
        obtain ⟨rfl, hf3⟩ := p3
        refine M_if_eq (pc := 330) C (tgt := 337) (by decide) dL_places_330 (by decide) (fun h => absurd h (by decide)) (fun _ => ?_)
        refine M_iconst (pc := 333) C dL_places_333 ?_
        refine M_goto (pc := 334) C (tgt := 338) dL_places_334 (by decide) ?_
        exact M_zretP (pc := 338) C rfl (Or.inr rfl) dL_places_338 ⟨rfl, fun x hx => (hf3 x (by omega)).trans (sa_ne (by omega) _)⟩
  · have hfi0 := hH.ro01 (f := f) (by omega)
    obtain ⟨hoc, hsum⟩ := hH.fiOC f (by omega)
    have hj_40 : M κ (N + 1) (newT T N 1 24) 40 [some (vR 0), some (vI t), some (vR ((N : Nat) : Int)), some (vI ((fiC r f : Nat) : Int)), some (vI (sumN (fun g => Bi (brB r g)) f)), some (vI ((f : Nat) : Int)), none, none, none, none] [vI ((szF r f : Nat) : Int)] (sa v N (fiX r f)) 1 24 (QP κ (N + 1 + 1) (newT (newT T N 1 24) (N + 1) 1 4) (fun r1 v1 => r1 = some (vI 1) ∧ ∀ x, x < N → v1 x = v x) 2 28) := by
      refine M_istore (pc := 40) C dL_places_40 (by decide) ?_
      refine M.to (L2 := [some (vR 0), some (vI t), some (vR ((N : Nat) : Int)), some (vI ((fiC r f : Nat) : Int)), some (vI (sumN (fun g => Bi (brB r g)) f)), some (vI ((f : Nat) : Int)), some (vI ((szF r f : Nat) : Int)), none, none, none]) ?_ rfl rfl rfl
      have hsz2 := hH.sz200 (f := f) (by omega)
      refine M_iconst (pc := 42) C dL_places_42 ?_
      refine M_istore (pc := 43) C dL_places_43 (by decide) ?_
      refine M.to (L2 := [some (vR 0), some (vI t), some (vR ((N : Nat) : Int)), some (vI ((fiC r f : Nat) : Int)), some (vI (sumN (fun g => Bi (brB r g)) f)), some (vI ((f : Nat) : Int)), some (vI ((szF r f : Nat) : Int)), some (vI 0), none, none]) ?_ rfl rfl rfl
      refine M_iconst (pc := 45) C dL_places_45 ?_
      refine M_istore (pc := 46) C dL_places_46 (by decide) ?_
      refine M.to (L2 := [some (vR 0), some (vI t), some (vR ((N : Nat) : Int)), some (vI ((fiC r f : Nat) : Int)), some (vI (sumN (fun g => Bi (brB r g)) f)), some (vI ((f : Nat) : Int)), some (vI ((szF r f : Nat) : Int)), some (vI 0), some (vI 0), none]) ?_ rfl rfl rfl
      refine loop_le (P := fun q => M κ (N + 1) (newT T N 1 24) 48 [some (vR 0), some (vI t), some (vR ((N : Nat) : Int)), some (vI ((fiC r f + cuC r f q : Nat) : Int)), some (vI (sumN (fun g => Bi (brB r g)) f)), some (vI ((f : Nat) : Int)), some (vI ((szF r f : Nat) : Int)), some (vI (Bi (cuL r f q))), some (vI ((q : Nat) : Int)), none] [] (sa v N (cuX r f (fiX r f) q)) 1 24 (QP κ (N + 1 + 1) (newT (newT T N 1 24) (N + 1) 1 4) (fun r1 v1 => r1 = some (vI 1) ∧ ∀ x, x < N → v1 x = v x) 2 28)) (szF r f) (fun q hqz0 ihq => ?_)
      refine M_iload (pc := 48) C dL_places_48 rfl ?_
      refine M_iload (pc := 50) C dL_places_50 rfl ?_
      refine M_icmp_ge (pc := 52) C (tgt := 247) (by omega) (by omega) dL_places_52 (by decide) (fun h_52 => ?_) (fun h_52 => ?_)
      · have hqs : q = szF r f := by omega
        subst hqs
        refine M_iload_n (pc := 247) C dL_places_247 rfl ?_
        have hj_269 : M κ (N + 1) (newT T N 1 24) 269 [some (vR 0), some (vI t), some (vR ((N : Nat) : Int)), some (vI ((fiC r f + cuC r f (szF r f) : Nat) : Int)), some (vI (sumN (fun g => Bi (brB r g)) f)), some (vI ((f : Nat) : Int)), some (vI ((szF r f : Nat) : Int)), some (vI (Bi (cuL r f (szF r f)))), some (vI ((szF r f : Nat) : Int)), none] [] (sa v N (cuX r f (fiX r f) (szF r f))) 1 24 (QP κ (N + 1 + 1) (newT (newT T N 1 24) (N + 1) 1 4) (fun r1 v1 => r1 = some (vI 1) ∧ ∀ x, x < N → v1 x = v x) 2 28) := by
          refine M_iload (pc := 269) C dL_places_269 rfl ?_
          have hj_296 : M κ (N + 1) (newT T N 1 24) 296 [some (vR 0), some (vI t), some (vR ((N : Nat) : Int)), some (vI ((fiC r f + cuC r f (szF r f) : Nat) : Int)), some (vI (sumN (fun g => Bi (brB r g)) f)), some (vI ((f : Nat) : Int)), some (vI ((szF r f : Nat) : Int)), some (vI (Bi (cuL r f (szF r f)))), some (vI ((szF r f : Nat) : Int)), none] [vI (Bi (brB r f)), vI (sumN (fun g => Bi (brB r g)) f)] (sa v N (cuX r f (fiX r f) (szF r f))) 1 24 (QP κ (N + 1 + 1) (newT (newT T N 1 24) (N + 1) 1 4) (fun r1 v1 => r1 = some (vI 1) ∧ ∀ x, x < N → v1 x = v x) 2 28) := by
            refine M_iadd (pc := 296) C dL_places_296 ?_
            refine M_istore (pc := 297) C dL_places_297 (by decide) ?_
            refine M.to (L2 := [some (vR 0), some (vI t), some (vR ((N : Nat) : Int)), some (vI ((fiC r f + cuC r f (szF r f) : Nat) : Int)), some (vI ((sumN (fun g => Bi (brB r g)) f) + (Bi (brB r f)))), some (vI ((f : Nat) : Int)), some (vI ((szF r f : Nat) : Int)), some (vI (Bi (cuL r f (szF r f)))), some (vI ((szF r f : Nat) : Int)), none]) ?_ rfl rfl rfl
            refine M_iinc (pc := 299) C dL_places_299 rfl (by decide) ?_
            refine M.to (L2 := [some (vR 0), some (vI t), some (vR ((N : Nat) : Int)), some (vI ((fiC r f + cuC r f (szF r f) : Nat) : Int)), some (vI ((sumN (fun g => Bi (brB r g)) f) + (Bi (brB r f)))), some (vI (((f : Nat) : Int) + 1)), some (vI ((szF r f : Nat) : Int)), some (vI (Bi (cuL r f (szF r f)))), some (vI ((szF r f : Nat) : Int)), none]) ?_ rfl rfl rfl
            refine M_goto (pc := 302) C (tgt := 13) dL_places_302 (by decide) ?_
            refine M.drop [true, true, true, true, true, true, false, false, false, true] rfl ?_
            exact M.to (ihf (by omega)) rfl rfl rfl
          refine M_iload_n (pc := 271) C dL_places_271 rfl ?_
          refine M_iload (pc := 272) C dL_places_272 rfl ?_
          refine A_cS (pc := 274) C (x := vI (Bi (btB t f))) (c_L_has (v := sa v N (cuX r f (fiX r f) (szF r f))) (t := t) (f := f) hT1 (by omega) (by omega)) yw_L_has lk_L_9 rfl dL_places_274 rfl (Nat.le_of_ble_eq_true rfl) (by decide) ⟨by decide, by decide⟩ ?_
          refine M_if_eq (pc := 277) C (tgt := 295) (Bi_i32 _) dL_places_277 (by decide) (fun h_277 => ?_) (fun h_277 => ?_)
          · have b_277 := Bi_eq0 h_277
            have hnf2 : ¬ ro r f 0 = 1 := fun q => by rw [ht.bt (by omega), decide_eq_true q] at b_277; cases b_277
            refine M_iconst (pc := 295) C dL_places_295 ?_
            exact M.to hj_296 rfl (by first | (rw [brB_t hfi (by omega)]; rfl) | (rw [brB_f (fun q1 q2 => by omega)]; rfl)) rfl
          · have b_277 := Bi_ne0 h_277
            have hfi : ro r f 0 = 1 := by rw [ht.bt (by omega)] at b_277; exact of_decide_eq_true b_277
            refine M_aload_n (pc := 280) C dL_places_280 rfl (by decide) ?_
            refine M_iload (pc := 281) C dL_places_281 rfl ?_
            refine M_iconst (pc := 283) C dL_places_283 ?_
            refine A_cV (pc := 284) C (x := vI (prF r f 5)) (a := 0) (c := 7) (c_X7_fileOf (v := sa v N (cuX r f (fiX r f) (szF r f))) (r := r) (c := c) (f := f) (w := 5) hT1 (hVx _) (by omega) hfi (by omega)) yw_X7_fileOf lk_L_15 rfl (congrArg Prod.fst (tt_0 hT1)) hc_7 rfl dL_places_284 rfl (Nat.le_of_ble_eq_true rfl) (by decide) ⟨by decide, by decide⟩ ?_
            have hpr_284 := hPR (f9 := f) (w9 := 5) (by omega) hfi (by omega)
            refine M_iconst (pc := 287) C dL_places_287 ?_
            refine M_icmp_ne (pc := 288) C (tgt := 295) (by omega) (by omega) dL_places_288 (by decide) (fun h_288 => ?_) (fun h_288 => ?_)
            · refine M_iconst (pc := 295) C dL_places_295 ?_
              exact M.to hj_296 rfl (by first | (rw [brB_t hfi (by omega)]; rfl) | (rw [brB_f (fun q1 q2 => by omega)]; rfl)) rfl
            · refine M_iconst (pc := 291) C dL_places_291 ?_
              refine M_goto (pc := 292) C (tgt := 296) dL_places_292 (by decide) ?_
              exact M.to hj_296 rfl (by first | (rw [brB_t hfi (by omega)]; rfl) | (rw [brB_f (fun q1 q2 => by omega)]; rfl)) rfl
        refine M_iload (pc := 248) C dL_places_248 rfl ?_
        refine A_cS (pc := 250) C (x := vI (Bi (btB t f))) (c_L_has (v := sa v N (cuX r f (fiX r f) (szF r f))) (t := t) (f := f) hT1 (by omega) (by omega)) yw_L_has lk_L_9 rfl dL_places_250 rfl (Nat.le_of_ble_eq_true rfl) (by decide) ⟨by decide, by decide⟩ ?_
        refine M_if_eq (pc := 253) C (tgt := 269) (Bi_i32 _) dL_places_253 (by decide) (fun h_253 => ?_) (fun h_253 => ?_)
        · have b_253 := Bi_eq0 h_253
          exact M.to hj_269 rfl rfl rfl
        · have b_253 := Bi_ne0 h_253
          have hfi : ro r f 0 = 1 := by rw [ht.bt (by omega)] at b_253; exact of_decide_eq_true b_253
          have hlo : Bi (cuL r f (szF r f)) = 1 → prF r f 5 = 1 := fun h => hH.cuLW (by omega) (by cases hz : cuL r f (szF r f) with | true => rfl | false => rw [hz] at h; exact absurd h (by decide))
          refine M_aload_n (pc := 256) C dL_places_256 rfl (by decide) ?_
          refine M_iload (pc := 257) C dL_places_257 rfl ?_
          refine M_iload (pc := 259) C dL_places_259 rfl ?_
          refine A_cS (pc := 261) C (x := vI 1) (c_L_file (v := sa v N (cuX r f (fiX r f) (szF r f))) (r := r) (c := c) (P := P) (s := s) (f := f) (l := Bi (cuL r f (szF r f))) hT1 (hVx _) (hHVx _) hc hk (by omega) hfi (Bi_01 _) hlo) yw_L_file lk_L_27 rfl dL_places_261 rfl (Nat.le_of_ble_eq_true rfl) (by decide) ⟨by decide, by decide⟩ ?_
          refine M_if_ne (pc := 264) C (tgt := 269) (by decide) dL_places_264 (by decide) (fun _ => ?_) (fun h => absurd h (by decide))
          exact M.to hj_269 rfl rfl rfl
      · have hqz : q < szF r f := by omega
        have hfi := szF_in hqz
        obtain ⟨sz1, sz2, sz3, sz4⟩ := szF_yes hH (by omega) hfi
        obtain ⟨hp1, -, hp3⟩ := hH.plF (by omega) hqz
        obtain ⟨hoq, -⟩ := hH.cuOC (by omega) hoc q (by omega)
        refine M_aload_n (pc := 55) C dL_places_55 rfl (by decide) ?_
        refine M_iload (pc := 56) C dL_places_56 rfl ?_
        refine M_iload (pc := 58) C dL_places_58 rfl ?_
        refine A_cV (pc := 60) C (x := vI (plO r f q)) (a := 0) (c := 7) (c_X7_place (v := sa v N (cuX r f (fiX r f) q)) (r := r) (c := c) (f := f) (q := q) hT1 (hVx _) (by omega) hfi (by omega)) yw_X7_place lk_L_21 rfl (congrArg Prod.fst (tt_0 hT1)) hc_7 rfl dL_places_60 rfl (Nat.le_of_ble_eq_true rfl) (by decide) ⟨by decide, by decide⟩ ?_
        refine M_istore (pc := 63) C dL_places_63 (by decide) ?_
        refine M.to (L2 := [some (vR 0), some (vI t), some (vR ((N : Nat) : Int)), some (vI ((fiC r f + cuC r f q : Nat) : Int)), some (vI (sumN (fun g => Bi (brB r g)) f)), some (vI ((f : Nat) : Int)), some (vI ((szF r f : Nat) : Int)), some (vI (Bi (cuL r f q))), some (vI ((q : Nat) : Int)), some (vI (plO r f q))]) ?_ rfl rfl rfl
        have hj_80 : M κ (N + 1) (newT T N 1 24) 80 [some (vR 0), some (vI t), some (vR ((N : Nat) : Int)), some (vI ((fiC r f + cuC r f q : Nat) : Int)), some (vI (sumN (fun g => Bi (brB r g)) f)), some (vI ((f : Nat) : Int)), some (vI ((szF r f : Nat) : Int)), some (vI (Bi (cuL r f q))), some (vI ((q : Nat) : Int)), some (vI (plO r f q))] [vI (Bi (cuL r f (q + 1)))] (sa v N (cuX r f (fiX r f) q)) 1 24 (QP κ (N + 1 + 1) (newT (newT T N 1 24) (N + 1) 1 4) (fun r1 v1 => r1 = some (vI 1) ∧ ∀ x, x < N → v1 x = v x) 2 28) := by
          refine M_istore (pc := 80) C dL_places_80 (by decide) ?_
          refine M.to (L2 := [some (vR 0), some (vI t), some (vR ((N : Nat) : Int)), some (vI ((fiC r f + cuC r f q : Nat) : Int)), some (vI (sumN (fun g => Bi (brB r g)) f)), some (vI ((f : Nat) : Int)), some (vI ((szF r f : Nat) : Int)), some (vI (Bi (cuL r f (q + 1)))), some (vI ((q : Nat) : Int)), some (vI (plO r f q))]) ?_ rfl rfl rfl
          refine M_iload (pc := 82) C dL_places_82 rfl ?_
          refine M_if_lt (pc := 84) C (tgt := 216) (by omega) dL_places_84 (by decide) (fun h_84 => ?_) (fun h_84 => ?_)
          · have e1 : cuX r f (fiX r f) (q + 1) = cuX r f (fiX r f) q := if_pos h_84
            have e2 : cuC r f (q + 1) = cuC r f q := by show cuC r f q + (if plO r f q < 0 then 0 else 1) = _; rw [if_pos h_84]; rfl
            refine M_iload (pc := 216) C dL_places_216 rfl ?_
            refine M_if_lt (pc := 218) C (tgt := 241) (by omega) dL_places_218 (by decide) (fun h_218 => ?_) (fun h_218 => ?_)
            · refine M_iinc (pc := 241) C dL_places_241 rfl (by decide) ?_
              refine M.to (L2 := [some (vR 0), some (vI t), some (vR ((N : Nat) : Int)), some (vI ((fiC r f + cuC r f q : Nat) : Int)), some (vI (sumN (fun g => Bi (brB r g)) f)), some (vI ((f : Nat) : Int)), some (vI ((szF r f : Nat) : Int)), some (vI (Bi (cuL r f (q + 1)))), some (vI (((q : Nat) : Int) + 1)), some (vI (plO r f q))]) ?_ rfl rfl rfl
              refine M_goto (pc := 244) C (tgt := 48) dL_places_244 (by decide) ?_
              refine M.drop [true, true, true, true, true, true, true, true, true, false] rfl ?_
              exact M.to (ihq (by omega)) (by rw [e2]; rfl) rfl (by rw [e1])
            · exfalso
              omega
          · obtain ⟨p, hp⟩ : ∃ p : Nat, plO r f q = (p : Int) := ⟨(plO r f q).toNat, by omega⟩
            obtain ⟨pa, pb, pc2, pd⟩ := hp3 p hp
            have pc2 : Unit → _ := fun _ => pc2
            have pd : Unit → _ := fun _ => pd
            have hoX := hoq.1 (p / 16) (by omega)
            have hbit := OC.unset hH hoq (by omega) hqz hp (by omega)
            have em : (((p : Nat) : Int) % 16).toNat = p % 16 := by omega
            have hb0 : cuX r f (fiX r f) q (p / 16) / 2 ^ (((p : Nat) : Int) % 16).toNat % 2 ^ 1 = 0 := by rw [em]; exact bit0 hoX.1 hbit
            have hpw : 0 ≤ (1 * 2 ^ (((p : Nat) : Int) % 16).toNat : Int) ∧ (1 * 2 ^ (((p : Nat) : Int) % 16).toNat : Int) < 65536 := by rw [em]; exact pw16 (by omega)
            have hbo : (((cuX r f (fiX r f) q (p / 16)).toNat ||| (1 * 2 ^ (((p : Nat) : Int) % 16).toNat : Int).toNat : Nat) : Int) < 65536 := by rw [em, pow_toNat]; exact Int.ofNat_lt.mpr (or_lt (by omega) (by omega))
            have e1 : cuX r f (fiX r f) (q + 1) = rs (cuX r f (fiX r f) q) (p / 16) (((cuX r f (fiX r f) q (p / 16)).toNat ||| (1 * 2 ^ (((p : Nat) : Int) % 16).toNat : Int).toNat : Nat) : Int) := by show (if plO r f q < 0 then cuX r f (fiX r f) q else rs (cuX r f (fiX r f) q) (plO r f q / 16).toNat (((cuX r f (fiX r f) q (plO r f q / 16).toNat).toNat ||| (1 * 2 ^ (plO r f q % 16).toNat : Int).toNat : Nat) : Int)) = _; rw [if_neg (show ¬ plO r f q < 0 by omega), hp, show (((p : Nat) : Int) / 16).toNat = p / 16 by omega]
            have e2 : cuC r f (q + 1) = cuC r f q + 1 := by show cuC r f q + (if plO r f q < 0 then 0 else 1) = _; rw [if_neg (show ¬ plO r f q < 0 by omega)]
            refine M.to (L2 := [some (vR 0), some (vI t), some (vR ((N : Nat) : Int)), some (vI ((fiC r f + cuC r f q : Nat) : Int)), some (vI (sumN (fun g => Bi (brB r g)) f)), some (vI ((f : Nat) : Int)), some (vI ((szF r f : Nat) : Int)), some (vI (Bi (cuL r f (q + 1)))), some (vI ((q : Nat) : Int)), some (vI ((p : Nat) : Int))]) ?_ (by rw [hp]) rfl rfl
            refine M_aload_n (pc := 87) C dL_places_87 rfl (by omega) ?_
            refine M_iload (pc := 88) C dL_places_88 rfl ?_
            refine M_bipush (pc := 90) C (by decide) dL_places_90 ?_
            refine M_idiv (pc := 92) C (by omega) (by decide) dL_places_92 ?_
            refine A_iald (pc := 93) C (a := N) (q := (p / 16)) rfl hTN (by decide) (by omega) (by omega) dL_places_93 (fun r_93 => ?_)
            have r_93 : i32 ((cuX r f (fiX r f) q) (p / 16)) := by first | exact r_93 | (rw [sa_eq] at r_93; exact r_93) | (rw [sa_ne (by omega)] at r_93; exact r_93)
            refine M.to (pc := 94) (st2 := [vI ((cuX r f (fiX r f) q) (p / 16))]) ?_ rfl (by first | rfl | (rw [sa_eq]; done) | (rw [sa_ne (by omega)]; done)) rfl
            refine M_iload (pc := 94) C dL_places_94 rfl ?_
            refine M_bipush (pc := 96) C (by decide) dL_places_96 ?_
            refine M_irem (pc := 98) C (by omega) (by decide) dL_places_98 ?_
            refine M_ishr (pc := 99) C (by omega) (by omega) dL_places_99 ?_
            refine M_iconst (pc := 100) C dL_places_100 ?_
            refine M_imask (pc := 101) C 1 (by decide) (by decide) dL_places_101 ?_
            refine M_iconst (pc := 102) C dL_places_102 ?_
            refine M.to (st2 := [vI 1, vI 0]) ?_ rfl (by rw [hb0]) rfl
            refine M_icmp_eq (pc := 103) C (tgt := 214) (by decide) (by decide) dL_places_103 (by decide) (fun h => absurd h (by decide)) (fun _ => ?_)
            refine M_aload_n (pc := 106) C dL_places_106 rfl (by decide) ?_
            refine M_iload (pc := 107) C dL_places_107 rfl ?_
            refine M_bipush (pc := 109) C (by decide) dL_places_109 ?_
            refine M_idiv (pc := 111) C (by omega) (by decide) dL_places_111 ?_
            refine M_iconst (pc := 112) C dL_places_112 ?_
            refine A_cV (pc := 113) C (x := vI (biF r (p / 16) 0)) (a := 0) (c := 7) (c_X7_blockOf (v := sa v N (cuX r f (fiX r f) q)) (r := r) (c := c) (b := p / 16) (w := 0) hT1 (hVx _) (by omega) (by omega)) yw_X7_blockOf lk_L_24 rfl (congrArg Prod.fst (tt_0 hT1)) hc_7 rfl dL_places_113 rfl (Nat.le_of_ble_eq_true rfl) (by decide) ⟨by decide, by decide⟩ ?_
            have hbi_113 := hBI (b9 := p / 16) (w9 := 0) (by omega) (by omega)
            refine M_if_eq (pc := 116) C (tgt := 214) (by omega) dL_places_116 (by decide) (fun h_116 => ?_) (fun h_116 => ?_)
            · exfalso
              omega
            · refine M_aload_n (pc := 119) C dL_places_119 rfl (by decide) ?_
              refine M_iload (pc := 120) C dL_places_120 rfl ?_
              refine M_bipush (pc := 122) C (by decide) dL_places_122 ?_
              refine M_idiv (pc := 124) C (by omega) (by decide) dL_places_124 ?_
              refine M_iconst (pc := 125) C dL_places_125 ?_
              refine A_cV (pc := 126) C (x := vI (biF r (p / 16) 0)) (a := 0) (c := 7) (c_X7_blockOf (v := sa v N (cuX r f (fiX r f) q)) (r := r) (c := c) (b := p / 16) (w := 0) hT1 (hVx _) (by omega) (by omega)) yw_X7_blockOf lk_L_24 rfl (congrArg Prod.fst (tt_0 hT1)) hc_7 rfl dL_places_126 rfl (Nat.le_of_ble_eq_true rfl) (by decide) ⟨by decide, by decide⟩ ?_
              have hbi_126 := hBI (b9 := p / 16) (w9 := 0) (by omega) (by omega)
              refine M_iconst (pc := 129) C dL_places_129 ?_
              refine M_icmp_eq (pc := 130) C (tgt := 214) (by omega) (by omega) dL_places_130 (by decide) (fun h_130 => ?_) (fun h_130 => ?_)
              · exfalso
                omega
              · refine M_iload (pc := 133) C dL_places_133 rfl ?_
                refine M_iload (pc := 135) C dL_places_135 rfl ?_
                refine M_bipush (pc := 137) C (by decide) dL_places_137 ?_
                refine M_idiv (pc := 139) C (by omega) (by decide) dL_places_139 ?_
                refine M_bipush (pc := 140) C (by decide) dL_places_140 ?_
                refine M_imul (pc := 142) C dL_places_142 ?_
                refine M_icmp_lt (pc := 143) C (tgt := 150) (by omega) (by omega) dL_places_143 (by decide) (fun h_143 => ?_) (fun h_143 => ?_)
                · obtain ⟨pd1, pd2, pd3⟩ := pd () (by omega)
                  refine M_iconst (pc := 150) C dL_places_150 ?_
                  refine M_aload_n (pc := 151) C dL_places_151 rfl (by decide) ?_
                  refine M_iload (pc := 152) C dL_places_152 rfl ?_
                  refine M_bipush (pc := 154) C (by decide) dL_places_154 ?_
                  refine M_idiv (pc := 156) C (by omega) (by decide) dL_places_156 ?_
                  refine M_iconst (pc := 157) C dL_places_157 ?_
                  refine A_cV (pc := 158) C (x := vI (biF r (p / 16) 0)) (a := 0) (c := 7) (c_X7_blockOf (v := sa v N (cuX r f (fiX r f) q)) (r := r) (c := c) (b := p / 16) (w := 0) hT1 (hVx _) (by omega) (by omega)) yw_X7_blockOf lk_L_24 rfl (congrArg Prod.fst (tt_0 hT1)) hc_7 rfl dL_places_158 rfl (Nat.le_of_ble_eq_true rfl) (by decide) ⟨by decide, by decide⟩ ?_
                  have hbi_158 := hBI (b9 := p / 16) (w9 := 0) (by omega) (by omega)
                  refine M_iconst (pc := 161) C dL_places_161 ?_
                  refine M_icmp_ne (pc := 162) C (tgt := 169) (by omega) (by omega) dL_places_162 (by decide) (fun h_162 => ?_) (fun h_162 => ?_)
                  · refine M_iconst (pc := 169) C dL_places_169 ?_
                    refine M_icmp_ne (pc := 170) C (tgt := 214) (by decide) (by decide) dL_places_170 (by decide) (fun h => absurd h (by decide)) (fun _ => ?_)
                    refine M_iload (pc := 173) C dL_places_173 rfl ?_
                    refine M_iload (pc := 175) C dL_places_175 rfl ?_
                    refine M_bipush (pc := 177) C (by decide) dL_places_177 ?_
                    refine M_idiv (pc := 179) C (by omega) (by decide) dL_places_179 ?_
                    refine M_bipush (pc := 180) C (by decide) dL_places_180 ?_
                    refine M_imul (pc := 182) C dL_places_182 ?_
                    refine M_icmp_ge (pc := 183) C (tgt := 216) (by omega) (by omega) dL_places_183 (by decide) (fun h_183 => ?_) (fun h_183 => ?_)
                    · refine M_iload (pc := 216) C dL_places_216 rfl ?_
                      refine M_if_lt (pc := 218) C (tgt := 241) (by omega) dL_places_218 (by decide) (fun h_218 => ?_) (fun h_218 => ?_)
                      · exfalso
                        omega
                      · refine M_aload_n (pc := 221) C dL_places_221 rfl (by omega) ?_
                        refine M_iload (pc := 222) C dL_places_222 rfl ?_
                        refine M_bipush (pc := 224) C (by decide) dL_places_224 ?_
                        refine M_idiv (pc := 226) C (by omega) (by decide) dL_places_226 ?_
                        refine M_dup2 (pc := 227) C rfl rfl dL_places_227 ?_
                        refine A_iald (pc := 228) C (a := N) (q := (p / 16)) rfl hTN (by decide) (by omega) (by omega) dL_places_228 (fun r_228 => ?_)
                        have r_228 : i32 ((cuX r f (fiX r f) q) (p / 16)) := by first | exact r_228 | (rw [sa_eq] at r_228; exact r_228) | (rw [sa_ne (by omega)] at r_228; exact r_228)
                        refine M.to (pc := 229) (st2 := [vI ((cuX r f (fiX r f) q) (p / 16)), vI (((p : Nat) : Int) / 16), vR ((N : Nat) : Int)]) ?_ rfl (by first | rfl | (rw [sa_eq]; done) | (rw [sa_ne (by omega)]; done)) rfl
                        refine M_iconst (pc := 229) C dL_places_229 ?_
                        refine M_iload (pc := 230) C dL_places_230 rfl ?_
                        refine M_bipush (pc := 232) C (by decide) dL_places_232 ?_
                        refine M_irem (pc := 234) C (by omega) (by decide) dL_places_234 ?_
                        refine M_ishl (pc := 235) C (by omega) dL_places_235 ?_
                        have hpw2 := (show 0 ≤ (1 * 2 ^ (((p : Nat) : Int) % 16).toNat : Int) ∧ (1 * 2 ^ (((p : Nat) : Int) % 16).toNat : Int) < 2147483648 from ⟨hpw.1, by omega⟩)
                        refine M_ior (pc := 236) C (by omega) hpw2 dL_places_236 ?_
                        refine A_iast (pc := 237) C (a := N) (q := (p / 16)) rfl hTN (by decide) (by omega) (by omega) (by omega) dL_places_237 ?_
                        refine M.to (pc := 238) (v2 := sa v N (rs (cuX r f (fiX r f) q) (p / 16) ((((cuX r f (fiX r f) q) (p / 16)).toNat ||| (1 * 2 ^ (((p : Nat) : Int) % 16).toNat : Int).toNat : Nat) : Int))) ?_ rfl rfl (by rw [sa_up0])
                        refine M_iinc (pc := 238) C dL_places_238 rfl (by decide) ?_
                        refine M.to (L2 := [some (vR 0), some (vI t), some (vR ((N : Nat) : Int)), some (vI (((fiC r f + cuC r f q : Nat) : Int) + 1)), some (vI (sumN (fun g => Bi (brB r g)) f)), some (vI ((f : Nat) : Int)), some (vI ((szF r f : Nat) : Int)), some (vI (Bi (cuL r f (q + 1)))), some (vI ((q : Nat) : Int)), some (vI ((p : Nat) : Int))]) ?_ rfl rfl rfl
                        refine M_iinc (pc := 241) C dL_places_241 rfl (by decide) ?_
                        refine M.to (L2 := [some (vR 0), some (vI t), some (vR ((N : Nat) : Int)), some (vI (((fiC r f + cuC r f q : Nat) : Int) + 1)), some (vI (sumN (fun g => Bi (brB r g)) f)), some (vI ((f : Nat) : Int)), some (vI ((szF r f : Nat) : Int)), some (vI (Bi (cuL r f (q + 1)))), some (vI (((q : Nat) : Int) + 1)), some (vI ((p : Nat) : Int))]) ?_ rfl rfl rfl
                        refine M_goto (pc := 244) C (tgt := 48) dL_places_244 (by decide) ?_
                        refine M.drop [true, true, true, true, true, true, true, true, true, false] rfl ?_
                        exact M.to (ihq (by omega)) (by rw [e2]; rfl) rfl (by rw [e1])
                    · refine M_iload (pc := 186) C dL_places_186 rfl ?_
                      refine M_bipush (pc := 188) C (by decide) dL_places_188 ?_
                      refine M_irem (pc := 190) C (by omega) (by decide) dL_places_190 ?_
                      refine M_iload (pc := 191) C dL_places_191 rfl ?_
                      refine M_bipush (pc := 193) C (by decide) dL_places_193 ?_
                      refine M_irem (pc := 195) C (by omega) (by decide) dL_places_195 ?_
                      refine M_icmp_ne (pc := 196) C (tgt := 214) (by omega) (by omega) dL_places_196 (by decide) (fun h_196 => ?_) (fun h_196 => ?_)
                      · exfalso
                        omega
                      · refine M_aload_n (pc := 199) C dL_places_199 rfl (by decide) ?_
                        refine M_iload (pc := 200) C dL_places_200 rfl ?_
                        refine M_bipush (pc := 202) C (by decide) dL_places_202 ?_
                        refine M_idiv (pc := 204) C (by omega) (by decide) dL_places_204 ?_
                        refine M_iconst (pc := 205) C dL_places_205 ?_
                        refine A_cV (pc := 206) C (x := vI (biF r (p / 16) 4)) (a := 0) (c := 7) (c_X7_blockOf (v := sa v N (cuX r f (fiX r f) q)) (r := r) (c := c) (b := p / 16) (w := 4) hT1 (hVx _) (by omega) (by omega)) yw_X7_blockOf lk_L_24 rfl (congrArg Prod.fst (tt_0 hT1)) hc_7 rfl dL_places_206 rfl (Nat.le_of_ble_eq_true rfl) (by decide) ⟨by decide, by decide⟩ ?_
                        have hbi_206 := hBI (b9 := p / 16) (w9 := 4) (by omega) (by omega)
                        refine M_iload (pc := 209) C dL_places_209 rfl ?_
                        refine M_icmp_eq (pc := 211) C (tgt := 216) (by omega) (by omega) dL_places_211 (by decide) (fun h_211 => ?_) (fun h_211 => ?_)
                        · refine M_iload (pc := 216) C dL_places_216 rfl ?_
                          refine M_if_lt (pc := 218) C (tgt := 241) (by omega) dL_places_218 (by decide) (fun h_218 => ?_) (fun h_218 => ?_)
                          · exfalso
                            omega
                          · refine M_aload_n (pc := 221) C dL_places_221 rfl (by omega) ?_
                            refine M_iload (pc := 222) C dL_places_222 rfl ?_
                            refine M_bipush (pc := 224) C (by decide) dL_places_224 ?_
                            refine M_idiv (pc := 226) C (by omega) (by decide) dL_places_226 ?_
                            refine M_dup2 (pc := 227) C rfl rfl dL_places_227 ?_
                            refine A_iald (pc := 228) C (a := N) (q := (p / 16)) rfl hTN (by decide) (by omega) (by omega) dL_places_228 (fun r_228 => ?_)
                            have r_228 : i32 ((cuX r f (fiX r f) q) (p / 16)) := by first | exact r_228 | (rw [sa_eq] at r_228; exact r_228) | (rw [sa_ne (by omega)] at r_228; exact r_228)
                            refine M.to (pc := 229) (st2 := [vI ((cuX r f (fiX r f) q) (p / 16)), vI (((p : Nat) : Int) / 16), vR ((N : Nat) : Int)]) ?_ rfl (by first | rfl | (rw [sa_eq]; done) | (rw [sa_ne (by omega)]; done)) rfl
                            refine M_iconst (pc := 229) C dL_places_229 ?_
                            refine M_iload (pc := 230) C dL_places_230 rfl ?_
                            refine M_bipush (pc := 232) C (by decide) dL_places_232 ?_
                            refine M_irem (pc := 234) C (by omega) (by decide) dL_places_234 ?_
                            refine M_ishl (pc := 235) C (by omega) dL_places_235 ?_
                            have hpw2 := (show 0 ≤ (1 * 2 ^ (((p : Nat) : Int) % 16).toNat : Int) ∧ (1 * 2 ^ (((p : Nat) : Int) % 16).toNat : Int) < 2147483648 from ⟨hpw.1, by omega⟩)
                            refine M_ior (pc := 236) C (by omega) hpw2 dL_places_236 ?_
                            refine A_iast (pc := 237) C (a := N) (q := (p / 16)) rfl hTN (by decide) (by omega) (by omega) (by omega) dL_places_237 ?_
                            refine M.to (pc := 238) (v2 := sa v N (rs (cuX r f (fiX r f) q) (p / 16) ((((cuX r f (fiX r f) q) (p / 16)).toNat ||| (1 * 2 ^ (((p : Nat) : Int) % 16).toNat : Int).toNat : Nat) : Int))) ?_ rfl rfl (by rw [sa_up0])
                            refine M_iinc (pc := 238) C dL_places_238 rfl (by decide) ?_
                            refine M.to (L2 := [some (vR 0), some (vI t), some (vR ((N : Nat) : Int)), some (vI (((fiC r f + cuC r f q : Nat) : Int) + 1)), some (vI (sumN (fun g => Bi (brB r g)) f)), some (vI ((f : Nat) : Int)), some (vI ((szF r f : Nat) : Int)), some (vI (Bi (cuL r f (q + 1)))), some (vI ((q : Nat) : Int)), some (vI ((p : Nat) : Int))]) ?_ rfl rfl rfl
                            refine M_iinc (pc := 241) C dL_places_241 rfl (by decide) ?_
                            refine M.to (L2 := [some (vR 0), some (vI t), some (vR ((N : Nat) : Int)), some (vI (((fiC r f + cuC r f q : Nat) : Int) + 1)), some (vI (sumN (fun g => Bi (brB r g)) f)), some (vI ((f : Nat) : Int)), some (vI ((szF r f : Nat) : Int)), some (vI (Bi (cuL r f (q + 1)))), some (vI (((q : Nat) : Int) + 1)), some (vI ((p : Nat) : Int))]) ?_ rfl rfl rfl
                            refine M_goto (pc := 244) C (tgt := 48) dL_places_244 (by decide) ?_
                            refine M.drop [true, true, true, true, true, true, true, true, true, false] rfl ?_
                            exact M.to (ihq (by omega)) (by rw [e2]; rfl) rfl (by rw [e1])
                        · exfalso
                          omega
                  · exfalso
                    omega
                · have pc3 := pc2 () (by omega)
                  refine M_iconst (pc := 146) C dL_places_146 ?_
                  refine M_goto (pc := 147) C (tgt := 151) dL_places_147 (by decide) ?_
                  refine M_aload_n (pc := 151) C dL_places_151 rfl (by decide) ?_
                  refine M_iload (pc := 152) C dL_places_152 rfl ?_
                  refine M_bipush (pc := 154) C (by decide) dL_places_154 ?_
                  refine M_idiv (pc := 156) C (by omega) (by decide) dL_places_156 ?_
                  refine M_iconst (pc := 157) C dL_places_157 ?_
                  refine A_cV (pc := 158) C (x := vI (biF r (p / 16) 0)) (a := 0) (c := 7) (c_X7_blockOf (v := sa v N (cuX r f (fiX r f) q)) (r := r) (c := c) (b := p / 16) (w := 0) hT1 (hVx _) (by omega) (by omega)) yw_X7_blockOf lk_L_24 rfl (congrArg Prod.fst (tt_0 hT1)) hc_7 rfl dL_places_158 rfl (Nat.le_of_ble_eq_true rfl) (by decide) ⟨by decide, by decide⟩ ?_
                  have hbi_158 := hBI (b9 := p / 16) (w9 := 0) (by omega) (by omega)
                  refine M_iconst (pc := 161) C dL_places_161 ?_
                  refine M_icmp_ne (pc := 162) C (tgt := 169) (by omega) (by omega) dL_places_162 (by decide) (fun h_162 => ?_) (fun h_162 => ?_)
                  · exfalso
                    omega
                  · refine M_iconst (pc := 165) C dL_places_165 ?_
                    refine M_goto (pc := 166) C (tgt := 170) dL_places_166 (by decide) ?_
                    refine M_icmp_ne (pc := 170) C (tgt := 214) (by decide) (by decide) dL_places_170 (by decide) (fun h => absurd h (by decide)) (fun _ => ?_)
                    refine M_iload (pc := 173) C dL_places_173 rfl ?_
                    refine M_iload (pc := 175) C dL_places_175 rfl ?_
                    refine M_bipush (pc := 177) C (by decide) dL_places_177 ?_
                    refine M_idiv (pc := 179) C (by omega) (by decide) dL_places_179 ?_
                    refine M_bipush (pc := 180) C (by decide) dL_places_180 ?_
                    refine M_imul (pc := 182) C dL_places_182 ?_
                    refine M_icmp_ge (pc := 183) C (tgt := 216) (by omega) (by omega) dL_places_183 (by decide) (fun h_183 => ?_) (fun h_183 => ?_)
                    · refine M_iload (pc := 216) C dL_places_216 rfl ?_
                      refine M_if_lt (pc := 218) C (tgt := 241) (by omega) dL_places_218 (by decide) (fun h_218 => ?_) (fun h_218 => ?_)
                      · exfalso
                        omega
                      · refine M_aload_n (pc := 221) C dL_places_221 rfl (by omega) ?_
                        refine M_iload (pc := 222) C dL_places_222 rfl ?_
                        refine M_bipush (pc := 224) C (by decide) dL_places_224 ?_
                        refine M_idiv (pc := 226) C (by omega) (by decide) dL_places_226 ?_
                        refine M_dup2 (pc := 227) C rfl rfl dL_places_227 ?_
                        refine A_iald (pc := 228) C (a := N) (q := (p / 16)) rfl hTN (by decide) (by omega) (by omega) dL_places_228 (fun r_228 => ?_)
                        have r_228 : i32 ((cuX r f (fiX r f) q) (p / 16)) := by first | exact r_228 | (rw [sa_eq] at r_228; exact r_228) | (rw [sa_ne (by omega)] at r_228; exact r_228)
                        refine M.to (pc := 229) (st2 := [vI ((cuX r f (fiX r f) q) (p / 16)), vI (((p : Nat) : Int) / 16), vR ((N : Nat) : Int)]) ?_ rfl (by first | rfl | (rw [sa_eq]; done) | (rw [sa_ne (by omega)]; done)) rfl
                        refine M_iconst (pc := 229) C dL_places_229 ?_
                        refine M_iload (pc := 230) C dL_places_230 rfl ?_
                        refine M_bipush (pc := 232) C (by decide) dL_places_232 ?_
                        refine M_irem (pc := 234) C (by omega) (by decide) dL_places_234 ?_
                        refine M_ishl (pc := 235) C (by omega) dL_places_235 ?_
                        have hpw2 := (show 0 ≤ (1 * 2 ^ (((p : Nat) : Int) % 16).toNat : Int) ∧ (1 * 2 ^ (((p : Nat) : Int) % 16).toNat : Int) < 2147483648 from ⟨hpw.1, by omega⟩)
                        refine M_ior (pc := 236) C (by omega) hpw2 dL_places_236 ?_
                        refine A_iast (pc := 237) C (a := N) (q := (p / 16)) rfl hTN (by decide) (by omega) (by omega) (by omega) dL_places_237 ?_
                        refine M.to (pc := 238) (v2 := sa v N (rs (cuX r f (fiX r f) q) (p / 16) ((((cuX r f (fiX r f) q) (p / 16)).toNat ||| (1 * 2 ^ (((p : Nat) : Int) % 16).toNat : Int).toNat : Nat) : Int))) ?_ rfl rfl (by rw [sa_up0])
                        refine M_iinc (pc := 238) C dL_places_238 rfl (by decide) ?_
                        refine M.to (L2 := [some (vR 0), some (vI t), some (vR ((N : Nat) : Int)), some (vI (((fiC r f + cuC r f q : Nat) : Int) + 1)), some (vI (sumN (fun g => Bi (brB r g)) f)), some (vI ((f : Nat) : Int)), some (vI ((szF r f : Nat) : Int)), some (vI (Bi (cuL r f (q + 1)))), some (vI ((q : Nat) : Int)), some (vI ((p : Nat) : Int))]) ?_ rfl rfl rfl
                        refine M_iinc (pc := 241) C dL_places_241 rfl (by decide) ?_
                        refine M.to (L2 := [some (vR 0), some (vI t), some (vR ((N : Nat) : Int)), some (vI (((fiC r f + cuC r f q : Nat) : Int) + 1)), some (vI (sumN (fun g => Bi (brB r g)) f)), some (vI ((f : Nat) : Int)), some (vI ((szF r f : Nat) : Int)), some (vI (Bi (cuL r f (q + 1)))), some (vI (((q : Nat) : Int) + 1)), some (vI ((p : Nat) : Int))]) ?_ rfl rfl rfl
                        refine M_goto (pc := 244) C (tgt := 48) dL_places_244 (by decide) ?_
                        refine M.drop [true, true, true, true, true, true, true, true, true, false] rfl ?_
                        exact M.to (ihq (by omega)) (by rw [e2]; rfl) rfl (by rw [e1])
                    · refine M_iload (pc := 186) C dL_places_186 rfl ?_
                      refine M_bipush (pc := 188) C (by decide) dL_places_188 ?_
                      refine M_irem (pc := 190) C (by omega) (by decide) dL_places_190 ?_
                      refine M_iload (pc := 191) C dL_places_191 rfl ?_
                      refine M_bipush (pc := 193) C (by decide) dL_places_193 ?_
                      refine M_irem (pc := 195) C (by omega) (by decide) dL_places_195 ?_
                      refine M_icmp_ne (pc := 196) C (tgt := 214) (by omega) (by omega) dL_places_196 (by decide) (fun h_196 => ?_) (fun h_196 => ?_)
                      · exfalso
                        omega
                      · refine M_aload_n (pc := 199) C dL_places_199 rfl (by decide) ?_
                        refine M_iload (pc := 200) C dL_places_200 rfl ?_
                        refine M_bipush (pc := 202) C (by decide) dL_places_202 ?_
                        refine M_idiv (pc := 204) C (by omega) (by decide) dL_places_204 ?_
                        refine M_iconst (pc := 205) C dL_places_205 ?_
                        refine A_cV (pc := 206) C (x := vI (biF r (p / 16) 4)) (a := 0) (c := 7) (c_X7_blockOf (v := sa v N (cuX r f (fiX r f) q)) (r := r) (c := c) (b := p / 16) (w := 4) hT1 (hVx _) (by omega) (by omega)) yw_X7_blockOf lk_L_24 rfl (congrArg Prod.fst (tt_0 hT1)) hc_7 rfl dL_places_206 rfl (Nat.le_of_ble_eq_true rfl) (by decide) ⟨by decide, by decide⟩ ?_
                        have hbi_206 := hBI (b9 := p / 16) (w9 := 4) (by omega) (by omega)
                        refine M_iload (pc := 209) C dL_places_209 rfl ?_
                        refine M_icmp_eq (pc := 211) C (tgt := 216) (by omega) (by omega) dL_places_211 (by decide) (fun h_211 => ?_) (fun h_211 => ?_)
                        · refine M_iload (pc := 216) C dL_places_216 rfl ?_
                          refine M_if_lt (pc := 218) C (tgt := 241) (by omega) dL_places_218 (by decide) (fun h_218 => ?_) (fun h_218 => ?_)
                          · exfalso
                            omega
                          · refine M_aload_n (pc := 221) C dL_places_221 rfl (by omega) ?_
                            refine M_iload (pc := 222) C dL_places_222 rfl ?_
                            refine M_bipush (pc := 224) C (by decide) dL_places_224 ?_
                            refine M_idiv (pc := 226) C (by omega) (by decide) dL_places_226 ?_
                            refine M_dup2 (pc := 227) C rfl rfl dL_places_227 ?_
                            refine A_iald (pc := 228) C (a := N) (q := (p / 16)) rfl hTN (by decide) (by omega) (by omega) dL_places_228 (fun r_228 => ?_)
                            have r_228 : i32 ((cuX r f (fiX r f) q) (p / 16)) := by first | exact r_228 | (rw [sa_eq] at r_228; exact r_228) | (rw [sa_ne (by omega)] at r_228; exact r_228)
                            refine M.to (pc := 229) (st2 := [vI ((cuX r f (fiX r f) q) (p / 16)), vI (((p : Nat) : Int) / 16), vR ((N : Nat) : Int)]) ?_ rfl (by first | rfl | (rw [sa_eq]; done) | (rw [sa_ne (by omega)]; done)) rfl
                            refine M_iconst (pc := 229) C dL_places_229 ?_
                            refine M_iload (pc := 230) C dL_places_230 rfl ?_
                            refine M_bipush (pc := 232) C (by decide) dL_places_232 ?_
                            refine M_irem (pc := 234) C (by omega) (by decide) dL_places_234 ?_
                            refine M_ishl (pc := 235) C (by omega) dL_places_235 ?_
                            have hpw2 := (show 0 ≤ (1 * 2 ^ (((p : Nat) : Int) % 16).toNat : Int) ∧ (1 * 2 ^ (((p : Nat) : Int) % 16).toNat : Int) < 2147483648 from ⟨hpw.1, by omega⟩)
                            refine M_ior (pc := 236) C (by omega) hpw2 dL_places_236 ?_
                            refine A_iast (pc := 237) C (a := N) (q := (p / 16)) rfl hTN (by decide) (by omega) (by omega) (by omega) dL_places_237 ?_
                            refine M.to (pc := 238) (v2 := sa v N (rs (cuX r f (fiX r f) q) (p / 16) ((((cuX r f (fiX r f) q) (p / 16)).toNat ||| (1 * 2 ^ (((p : Nat) : Int) % 16).toNat : Int).toNat : Nat) : Int))) ?_ rfl rfl (by rw [sa_up0])
                            refine M_iinc (pc := 238) C dL_places_238 rfl (by decide) ?_
                            refine M.to (L2 := [some (vR 0), some (vI t), some (vR ((N : Nat) : Int)), some (vI (((fiC r f + cuC r f q : Nat) : Int) + 1)), some (vI (sumN (fun g => Bi (brB r g)) f)), some (vI ((f : Nat) : Int)), some (vI ((szF r f : Nat) : Int)), some (vI (Bi (cuL r f (q + 1)))), some (vI ((q : Nat) : Int)), some (vI ((p : Nat) : Int))]) ?_ rfl rfl rfl
                            refine M_iinc (pc := 241) C dL_places_241 rfl (by decide) ?_
                            refine M.to (L2 := [some (vR 0), some (vI t), some (vR ((N : Nat) : Int)), some (vI (((fiC r f + cuC r f q : Nat) : Int) + 1)), some (vI (sumN (fun g => Bi (brB r g)) f)), some (vI ((f : Nat) : Int)), some (vI ((szF r f : Nat) : Int)), some (vI (Bi (cuL r f (q + 1)))), some (vI (((q : Nat) : Int) + 1)), some (vI ((p : Nat) : Int))]) ?_ rfl rfl rfl
                            refine M_goto (pc := 244) C (tgt := 48) dL_places_244 (by decide) ?_
                            refine M.drop [true, true, true, true, true, true, true, true, true, false] rfl ?_
                            exact M.to (ihq (by omega)) (by rw [e2]; rfl) rfl (by rw [e1])
                        · exfalso
                          omega
        refine M_iload (pc := 65) C dL_places_65 rfl ?_
        refine M_if_ne (pc := 67) C (tgt := 75) (Bi_i32 _) dL_places_67 (by decide) (fun h_67 => ?_) (fun h_67 => ?_)
        · have b_67 := Bi_ne0 h_67
          refine M_iconst (pc := 75) C dL_places_75 ?_
          refine M_goto (pc := 76) C (tgt := 80) dL_places_76 (by decide) ?_
          exact M.to hj_80 rfl (by first | (rw [show cuL r f (q + 1) = true from orN_t2 b_67]; rfl) | (rw [show cuL r f (q + 1) = true from orN_t3 (decide_eq_true (by omega))]; rfl) | (rw [show cuL r f (q + 1) = false from orN_f b_67 (decide_eq_false (by omega))]; rfl)) rfl
        · have b_67 := Bi_eq0 h_67
          refine M_iload (pc := 70) C dL_places_70 rfl ?_
          refine M_if_ge (pc := 72) C (tgt := 79) (by omega) dL_places_72 (by decide) (fun h_72 => ?_) (fun h_72 => ?_)
          · refine M_iconst (pc := 79) C dL_places_79 ?_
            exact M.to hj_80 rfl (by first | (rw [show cuL r f (q + 1) = true from orN_t2 b_67]; rfl) | (rw [show cuL r f (q + 1) = true from orN_t3 (decide_eq_true (by omega))]; rfl) | (rw [show cuL r f (q + 1) = false from orN_f b_67 (decide_eq_false (by omega))]; rfl)) rfl
          · refine M_iconst (pc := 75) C dL_places_75 ?_
            refine M_goto (pc := 76) C (tgt := 80) dL_places_76 (by decide) ?_
            exact M.to hj_80 rfl (by first | (rw [show cuL r f (q + 1) = true from orN_t2 b_67]; rfl) | (rw [show cuL r f (q + 1) = true from orN_t3 (decide_eq_true (by omega))]; rfl) | (rw [show cuL r f (q + 1) = false from orN_f b_67 (decide_eq_false (by omega))]; rfl)) rfl
    refine M_iload_n (pc := 20) C dL_places_20 rfl ?_
    refine M_iload (pc := 21) C dL_places_21 rfl ?_
    refine A_cS (pc := 23) C (x := vI (Bi (btB t f))) (c_L_has (v := sa v N (fiX r f)) (t := t) (f := f) hT1 (by omega) (by omega)) yw_L_has lk_L_9 rfl dL_places_23 rfl (Nat.le_of_ble_eq_true rfl) (by decide) ⟨by decide, by decide⟩ ?_
    refine M_if_eq (pc := 26) C (tgt := 39) (Bi_i32 _) dL_places_26 (by decide) (fun h_26 => ?_) (fun h_26 => ?_)
    · have b_26 := Bi_eq0 h_26
      have hnf : ¬ ro r f 0 = 1 := fun q => by rw [ht.bt (by omega), decide_eq_true q] at b_26; cases b_26
      refine M_iconst (pc := 39) C dL_places_39 ?_
      exact M.to hj_40 rfl (by first | (rw [szF_no hnf]; rfl) | (rw [(szF_yes hH (by omega) hfi).1]; rfl)) rfl
    · have b_26 := Bi_ne0 h_26
      have hfi : ro r f 0 = 1 := by rw [ht.bt (by omega)] at b_26; exact of_decide_eq_true b_26
      refine M_aload_n (pc := 29) C dL_places_29 rfl (by decide) ?_
      refine M_iload (pc := 30) C dL_places_30 rfl ?_
      refine M_iconst (pc := 32) C dL_places_32 ?_
      refine A_cV (pc := 33) C (x := vI (prF r f 0)) (a := 0) (c := 7) (c_X7_fileOf (v := sa v N (fiX r f)) (r := r) (c := c) (f := f) (w := 0) hT1 (hVx _) (by omega) hfi (by omega)) yw_X7_fileOf lk_L_15 rfl (congrArg Prod.fst (tt_0 hT1)) hc_7 rfl dL_places_33 rfl (Nat.le_of_ble_eq_true rfl) (by decide) ⟨by decide, by decide⟩ ?_
      have hpr_33 := hPR (f9 := f) (w9 := 0) (by omega) hfi (by omega)
      refine M_goto (pc := 36) C (tgt := 40) dL_places_36 (by decide) ?_
      exact M.to hj_40 rfl (by first | (rw [szF_no hnf]; rfl) | (rw [(szF_yes hH (by omega) hfi).1]; rfl)) rfl
