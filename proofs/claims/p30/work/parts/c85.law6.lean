set_option maxHeartbeats 8000000 in
theorem c_L_blocks {N : Nat} {T : Ty} {r P : Nat → Int} {c : Int} {s : Nat} {a : Nat} {v : Ct} (hT : TT T) (hV : DV v 1 r c) (hHV : HVr v P s c) (hc : c < 900000) (hN : 84 ≤ N) (ha : a < N) (hTa : T a = (1, 24, lkN)) (hX : OC (v a) r 10 0) : RunsP mL_blocks 5 1 4 [vR 0, vR ((a : Nat) : Int)] N T v (N + 1) (newT T N 1 4) (fun r1 v1 => r1 = some (vI 1) ∧ ∀ x, x ≠ N → v1 x = v x) := by
  have hH : DR (v 2) (v 3) (v 4) (v 5) (v 6) (v 7) (v 8) (v 9) r := hV.1
  have hC : CNT (v 1) (v 9) r c := hV.2
  have hs := hHV.1
  have hs6 := hHV.2.1
  have hfr_v : fr v v := fun _ _ => rfl
  obtain ⟨hr0, hr1, hr2, hrP⟩ := hC.bds (by omega)
  have hBI : ∀ {b9 w9 : Nat}, b9 < 24 → w9 < 5 → -1 ≤ biF r b9 w9 ∧ biF r b9 w9 ≤ 24 := fun h1 h2 => hH.biB h1 h2
  have hPR : ∀ {f9 w9 : Nat}, f9 < 10 → ro r f9 0 = 1 → w9 < 7 → -1 ≤ prF r f9 w9 ∧ prF r f9 w9 ≤ 1000000 := fun h1 h2 h3 => hH.prB hrP h1 h2 h3
  have hCT : ∀ {w9 : Nat}, w9 < 12 → 0 ≤ ctX r s w9 ∧ ctX r s w9 ≤ 1000000 := fun h => hH.ctB ⟨by omega, by omega⟩ ⟨by omega, by omega⟩ hr2 hs6 h
  clear hr2
  have hgp : sumN (gpT r) 24 = sumN (gpT r) 24 := rfl
  refine RunsP.of (by decide) (Nat.le_of_ble_eq_true rfl) fun κ C => ?_
  refine M_iconst (pc := 0) C dL_blocks_0 ?_
  refine M_newI (pc := 1) C ac_int (by decide) ⟨by decide, by decide⟩ dL_blocks_1 ?_
  refine M.toN (N2 := N + 1) (T2 := newT T N 1 4) (k2 := 1) (n2 := 4) ?_ rfl rfl rfl rfl
  refine M.to (pc := 3) (st2 := [vR ((N : Nat) : Int)]) (v2 := sa v N (fun _ => 0)) ?_ rfl rfl rfl
  have hT1 : TT (newT T N 1 4) := hT.nw hN
  have hTN : newT T N 1 4 N = (1, 4, lkN) := newT_n
  have hVx : ∀ X, DV (sa v N X) 1 r c := fun X => hV.same (fun k hk => sa_ne (by omega) _) (fun _ _ => rfl)
  have hsx : ∀ X, sa v N X 10 1 = (s : Int) := fun X => by rw [sa_ne (by omega)]; exact hs
  have hHVx : ∀ X, HVr (sa v N X) P s c := fun X => hHV.same (fun q h1 h2 => sa_ne (by omega) _)
  have hTa1 : newT T N 1 4 a = (1, 24, lkN) := (newT_o (by omega)).trans hTa
  refine M_astore_n (pc := 3) C dL_blocks_3 (by decide) (by omega) ?_
  refine M.to (L2 := [some (vR 0), some (vR ((a : Nat) : Int)), some (vR ((N : Nat) : Int)), none, none, none, none, none, none, none]) ?_ rfl rfl rfl
  refine M_iconst (pc := 4) C dL_blocks_4 ?_
  refine M_istore_n (pc := 5) C dL_blocks_5 (by decide) ?_
  refine M.to (L2 := [some (vR 0), some (vR ((a : Nat) : Int)), some (vR ((N : Nat) : Int)), some (vI 0), none, none, none, none, none, none]) ?_ rfl rfl rfl
  refine M_iconst (pc := 6) C dL_blocks_6 ?_
  refine M_istore (pc := 7) C dL_blocks_7 (by decide) ?_
  refine M.to (L2 := [some (vR 0), some (vR ((a : Nat) : Int)), some (vR ((N : Nat) : Int)), some (vI 0), some (vI 0), none, none, none, none, none]) ?_ rfl rfl rfl
  refine loop_le (P := fun b => M κ (N + 1) (newT T N 1 4) 9 [some (vR 0), some (vR ((a : Nat) : Int)), some (vR ((N : Nat) : Int)), some (vI (sumN (gpT r) b)), some (vI ((b : Nat) : Int)), none, none, none, none, none] [] (sa v N (kdX r b)) 1 4 (QP κ (N + 1) (newT T N 1 4) (fun r1 v1 => r1 = some (vI 1) ∧ ∀ x, x ≠ N → v1 x = v x) 1 4)) 24 (fun b hb24 ihb => ?_)
  refine M_iload (pc := 9) C dL_blocks_9 rfl ?_
  refine M_bipush (pc := 11) C (by decide) dL_blocks_11 ?_
  refine M_icmp_ge (pc := 13) C (tgt := 304) (by omega) (by omega) dL_blocks_13 (by decide) (fun h_13 => ?_) (fun h_13 => ?_)
  · have hbe : b = 24 := by omega
    subst hbe
    have hk0 : kdX r 24 0 = cntK r 0 := kdX_c r 0
    have hk1 : kdX r 24 1 = cntK r 1 := kdX_c r 1
    have hk2 : kdX r 24 2 = cntK r 2 := kdX_c r 2
    have hk3 : kdX r 24 3 = cntK r 3 := kdX_c r 3
    have hB0 := kdX_bd r (n := 24) (by decide) 0
    have hB1 := kdX_bd r (n := 24) (by decide) 1
    have hB2 := kdX_bd r (n := 24) (by decide) 2
    have hB3 := kdX_bd r (n := 24) (by decide) 3
    have hct6 := hCT (w9 := 6) (by decide)
    have hck6 : ctX r s 6 = sumN (gpT r) 24 := rfl
    refine M_aload_n (pc := 304) C dL_blocks_304 rfl (by decide) ?_
    refine M_iconst (pc := 305) C dL_blocks_305 ?_
    refine A_cV (pc := 306) C (x := vI (ctX r s 1)) (a := 0) (c := 7) (c_X7_count (v := sa v N (kdX r 24)) (r := r) (c := c) (s := s) (w := 1) hT1 (hVx _) (by omega) (hsx _)) yw_X7_count lk_L_31 rfl (congrArg Prod.fst (tt_0 hT1)) hc_7 rfl dL_blocks_306 rfl (Nat.le_of_ble_eq_true rfl) (by decide) ⟨by decide, by decide⟩ ?_
    have hct_306 := hCT (w9 := 1) (by omega)
    have hck_306 : ctX r s 1 = cntK r 0 := rfl
    refine M_aload_n (pc := 309) C dL_blocks_309 rfl (by omega) ?_
    refine M_iconst (pc := 310) C dL_blocks_310 ?_
    refine A_iald (pc := 311) C (a := N) (q := 0) rfl hTN (by decide) rfl (by omega) dL_blocks_311 (fun r_311 => ?_)
    have r_311 : i32 ((kdX r 24) 0) := by first | exact r_311 | (rw [sa_eq] at r_311; exact r_311) | (rw [sa_ne (by omega)] at r_311; exact r_311)
    refine M.to (pc := 312) (st2 := [vI ((kdX r 24) 0), vI (ctX r s 1)]) ?_ rfl (by first | rfl | (rw [sa_eq]; done) | (rw [sa_ne (by omega)]; done)) rfl
    refine M_icmp_ne (pc := 312) C (tgt := 362) (by omega) (by omega) dL_blocks_312 (by decide) (fun h_312 => ?_) (fun h_312 => ?_)
    · exfalso
      omega
    · refine M_aload_n (pc := 315) C dL_blocks_315 rfl (by decide) ?_
      refine M_iconst (pc := 316) C dL_blocks_316 ?_
      refine A_cV (pc := 317) C (x := vI (ctX r s 2)) (a := 0) (c := 7) (c_X7_count (v := sa v N (kdX r 24)) (r := r) (c := c) (s := s) (w := 2) hT1 (hVx _) (by omega) (hsx _)) yw_X7_count lk_L_31 rfl (congrArg Prod.fst (tt_0 hT1)) hc_7 rfl dL_blocks_317 rfl (Nat.le_of_ble_eq_true rfl) (by decide) ⟨by decide, by decide⟩ ?_
      have hct_317 := hCT (w9 := 2) (by omega)
      have hck_317 : ctX r s 2 = cntK r 1 := rfl
      refine M_aload_n (pc := 320) C dL_blocks_320 rfl (by omega) ?_
      refine M_iconst (pc := 321) C dL_blocks_321 ?_
      refine A_iald (pc := 322) C (a := N) (q := 1) rfl hTN (by decide) rfl (by omega) dL_blocks_322 (fun r_322 => ?_)
      have r_322 : i32 ((kdX r 24) 1) := by first | exact r_322 | (rw [sa_eq] at r_322; exact r_322) | (rw [sa_ne (by omega)] at r_322; exact r_322)
      refine M.to (pc := 323) (st2 := [vI ((kdX r 24) 1), vI (ctX r s 2)]) ?_ rfl (by first | rfl | (rw [sa_eq]; done) | (rw [sa_ne (by omega)]; done)) rfl
      refine M_icmp_ne (pc := 323) C (tgt := 362) (by omega) (by omega) dL_blocks_323 (by decide) (fun h_323 => ?_) (fun h_323 => ?_)
      · exfalso
        omega
      · refine M_aload_n (pc := 326) C dL_blocks_326 rfl (by decide) ?_
        refine M_iconst (pc := 327) C dL_blocks_327 ?_
        refine A_cV (pc := 328) C (x := vI (ctX r s 3)) (a := 0) (c := 7) (c_X7_count (v := sa v N (kdX r 24)) (r := r) (c := c) (s := s) (w := 3) hT1 (hVx _) (by omega) (hsx _)) yw_X7_count lk_L_31 rfl (congrArg Prod.fst (tt_0 hT1)) hc_7 rfl dL_blocks_328 rfl (Nat.le_of_ble_eq_true rfl) (by decide) ⟨by decide, by decide⟩ ?_
        have hct_328 := hCT (w9 := 3) (by omega)
        have hck_328 : ctX r s 3 = cntK r 2 := rfl
        refine M_aload_n (pc := 331) C dL_blocks_331 rfl (by omega) ?_
        refine M_iconst (pc := 332) C dL_blocks_332 ?_
        refine A_iald (pc := 333) C (a := N) (q := 2) rfl hTN (by decide) rfl (by omega) dL_blocks_333 (fun r_333 => ?_)
        have r_333 : i32 ((kdX r 24) 2) := by first | exact r_333 | (rw [sa_eq] at r_333; exact r_333) | (rw [sa_ne (by omega)] at r_333; exact r_333)
        refine M.to (pc := 334) (st2 := [vI ((kdX r 24) 2), vI (ctX r s 3)]) ?_ rfl (by first | rfl | (rw [sa_eq]; done) | (rw [sa_ne (by omega)]; done)) rfl
        refine M_icmp_ne (pc := 334) C (tgt := 362) (by omega) (by omega) dL_blocks_334 (by decide) (fun h_334 => ?_) (fun h_334 => ?_)
        · exfalso
          omega
        · refine M_aload_n (pc := 337) C dL_blocks_337 rfl (by decide) ?_
          refine M_iconst (pc := 338) C dL_blocks_338 ?_
          refine A_cV (pc := 339) C (x := vI (ctX r s 4)) (a := 0) (c := 7) (c_X7_count (v := sa v N (kdX r 24)) (r := r) (c := c) (s := s) (w := 4) hT1 (hVx _) (by omega) (hsx _)) yw_X7_count lk_L_31 rfl (congrArg Prod.fst (tt_0 hT1)) hc_7 rfl dL_blocks_339 rfl (Nat.le_of_ble_eq_true rfl) (by decide) ⟨by decide, by decide⟩ ?_
          have hct_339 := hCT (w9 := 4) (by omega)
          have hck_339 : ctX r s 4 = cntK r 3 := rfl
          refine M_aload_n (pc := 342) C dL_blocks_342 rfl (by omega) ?_
          refine M_iconst (pc := 343) C dL_blocks_343 ?_
          refine A_iald (pc := 344) C (a := N) (q := 3) rfl hTN (by decide) rfl (by omega) dL_blocks_344 (fun r_344 => ?_)
          have r_344 : i32 ((kdX r 24) 3) := by first | exact r_344 | (rw [sa_eq] at r_344; exact r_344) | (rw [sa_ne (by omega)] at r_344; exact r_344)
          refine M.to (pc := 345) (st2 := [vI ((kdX r 24) 3), vI (ctX r s 4)]) ?_ rfl (by first | rfl | (rw [sa_eq]; done) | (rw [sa_ne (by omega)]; done)) rfl
          refine M_icmp_ne (pc := 345) C (tgt := 362) (by omega) (by omega) dL_blocks_345 (by decide) (fun h_345 => ?_) (fun h_345 => ?_)
          · exfalso
            omega
          · refine M_aload_n (pc := 348) C dL_blocks_348 rfl (by decide) ?_
            refine M_bipush (pc := 349) C (by decide) dL_blocks_349 ?_
            refine A_cV (pc := 351) C (x := vI (ctX r s 6)) (a := 0) (c := 7) (c_X7_count (v := sa v N (kdX r 24)) (r := r) (c := c) (s := s) (w := 6) hT1 (hVx _) (by omega) (hsx _)) yw_X7_count lk_L_31 rfl (congrArg Prod.fst (tt_0 hT1)) hc_7 rfl dL_blocks_351 rfl (Nat.le_of_ble_eq_true rfl) (by decide) ⟨by decide, by decide⟩ ?_
            have hct_351 := hCT (w9 := 6) (by omega)
            have hck_351 : ctX r s 6 = sumN (gpT r) 24 := rfl
            refine M_iload_n (pc := 354) C dL_blocks_354 rfl ?_
            refine M_icmp_ne (pc := 355) C (tgt := 362) (by omega) (by omega) dL_blocks_355 (by decide) (fun h_355 => ?_) (fun h_355 => ?_)
            · exfalso
              omega
            · refine M_iconst (pc := 358) C dL_blocks_358 ?_
              refine M_goto (pc := 359) C (tgt := 363) dL_blocks_359 (by decide) ?_
              exact M_zretP (pc := 363) C rfl (Or.inr rfl) dL_blocks_363 ⟨rfl, fun x hx => sa_ne hx _⟩
  · have hfb := hH.finB hX (show b < 24 by omega)
    obtain ⟨hf1, hf2, hf3, hf4, hf5, hf6, hf7, hf8, hf9⟩ := hfb
    have hg0 : Unit → biF r b 0 ≠ 2 → gpT r b = 0 := fun _ q => if_neg (by rw [← hf2]; exact q)
    have hf3 : Unit → _ := fun _ => hf3
    have hf4 : Unit → _ := fun _ => hf4
    have hf5 : Unit → _ := fun _ => hf5
    have hf6 : Unit → _ := fun _ => hf6
    have hf7 : Unit → _ := fun _ => hf7
    have hf9 : Unit → _ := fun _ => hf9
    clear hf8
    have hvb := hX.1 b (by omega)
    have hkB := kdX_bd r (n := b) (by omega)
    refine M_aload_n (pc := 16) C dL_blocks_16 rfl (by decide) ?_
    refine M_iload (pc := 17) C dL_blocks_17 rfl ?_
    refine M_iconst (pc := 19) C dL_blocks_19 ?_
    refine A_cV (pc := 20) C (x := vI (biF r b 0)) (a := 0) (c := 7) (c_X7_blockOf (v := sa v N (kdX r b)) (r := r) (c := c) (b := b) (w := 0) hT1 (hVx _) (by omega) (by omega)) yw_X7_blockOf lk_L_24 rfl (congrArg Prod.fst (tt_0 hT1)) hc_7 rfl dL_blocks_20 rfl (Nat.le_of_ble_eq_true rfl) (by decide) ⟨by decide, by decide⟩ ?_
    have hbi_20 := hBI (b9 := b) (w9 := 0) (by omega) (by omega)
    obtain ⟨kd, hkd⟩ : ∃ kd : Nat, biF r b 0 = (kd : Int) := ⟨(biF r b 0).toNat, by omega⟩
    refine M.to (st2 := [vI ((kd : Nat) : Int)]) ?_ rfl (by rw [hkd]) rfl
    refine M_istore (pc := 23) C dL_blocks_23 (by decide) ?_
    refine M.to (L2 := [some (vR 0), some (vR ((a : Nat) : Int)), some (vR ((N : Nat) : Int)), some (vI (sumN (gpT r) b)), some (vI ((b : Nat) : Int)), some (vI ((kd : Nat) : Int)), none, none, none, none]) ?_ rfl rfl rfl
    refine M_iconst (pc := 25) C dL_blocks_25 ?_
    refine M_istore (pc := 26) C dL_blocks_26 (by decide) ?_
    refine M.to (L2 := [some (vR 0), some (vR ((a : Nat) : Int)), some (vR ((N : Nat) : Int)), some (vI (sumN (gpT r) b)), some (vI ((b : Nat) : Int)), some (vI ((kd : Nat) : Int)), some (vI 0), none, none, none]) ?_ rfl rfl rfl
    refine M_iconst (pc := 28) C dL_blocks_28 ?_
    refine M_istore (pc := 29) C dL_blocks_29 (by decide) ?_
    refine M.to (L2 := [some (vR 0), some (vR ((a : Nat) : Int)), some (vR ((N : Nat) : Int)), some (vI (sumN (gpT r) b)), some (vI ((b : Nat) : Int)), some (vI ((kd : Nat) : Int)), some (vI 0), some (vI 0), none, none]) ?_ rfl rfl rfl
    refine M_iconst (pc := 31) C dL_blocks_31 ?_
    refine M_istore (pc := 32) C dL_blocks_32 (by decide) ?_
    refine M.to (L2 := [some (vR 0), some (vR ((a : Nat) : Int)), some (vR ((N : Nat) : Int)), some (vI (sumN (gpT r) b)), some (vI ((b : Nat) : Int)), some (vI ((kd : Nat) : Int)), some (vI 0), some (vI 0), some (vI 0), none]) ?_ rfl rfl rfl
    refine M_iconst (pc := 34) C dL_blocks_34 ?_
    refine M_istore (pc := 35) C dL_blocks_35 (by decide) ?_
    refine M.to (L2 := [some (vR 0), some (vR ((a : Nat) : Int)), some (vR ((N : Nat) : Int)), some (vI (sumN (gpT r) b)), some (vI ((b : Nat) : Int)), some (vI ((kd : Nat) : Int)), some (vI 0), some (vI 0), some (vI 0), some (vI 0)]) ?_ rfl rfl rfl
    refine loop_le (P := fun q => M κ (N + 1) (newT T N 1 4) 37 [some (vR 0), some (vR ((a : Nat) : Int)), some (vR ((N : Nat) : Int)), some (vI (sumN (gpT r) b)), some (vI ((b : Nat) : Int)), some (vI ((kd : Nat) : Int)), some (vI ((pcN (v a b).toNat q : Nat) : Int)), some (vI (((lgN (v a b) q).1 : Nat) : Int)), some (vI (((lgN (v a b) q).2 : Nat) : Int)), some (vI ((q : Nat) : Int))] [] (sa v N (kdX r b)) 1 4 (QP κ (N + 1) (newT T N 1 4) (fun r1 v1 => r1 = some (vI 1) ∧ ∀ x, x ≠ N → v1 x = v x) 1 4)) 16 (fun q hq16 ihq => ?_)
    refine M_iload (pc := 37) C dL_blocks_37 rfl ?_
    refine M_bipush (pc := 39) C (by decide) dL_blocks_39 ?_
    refine M_icmp_ge (pc := 41) C (tgt := 103) (by omega) (by omega) dL_blocks_41 (by decide) (fun h_41 => ?_) (fun h_41 => ?_)
    · have hqe : q = 16 := by omega
      subst hqe
      have hkk := hkB kd
      refine M_aload_n (pc := 103) C dL_blocks_103 rfl (by omega) ?_
      refine M_iload (pc := 104) C dL_blocks_104 rfl ?_
      refine M_dup2 (pc := 106) C rfl rfl dL_blocks_106 ?_
      refine A_iald (pc := 107) C (a := N) (q := kd) rfl hTN (by decide) rfl (by omega) dL_blocks_107 (fun r_107 => ?_)
      have r_107 : i32 ((kdX r b) kd) := by first | exact r_107 | (rw [sa_eq] at r_107; exact r_107) | (rw [sa_ne (by omega)] at r_107; exact r_107)
      refine M.to (pc := 108) (st2 := [vI ((kdX r b) kd), vI ((kd : Nat) : Int), vR ((N : Nat) : Int)]) ?_ rfl (by first | rfl | (rw [sa_eq]; done) | (rw [sa_ne (by omega)]; done)) rfl
      refine M_iconst (pc := 108) C dL_blocks_108 ?_
      refine M_iadd (pc := 109) C dL_blocks_109 ?_
      refine A_iast (pc := 110) C (a := N) (q := kd) rfl hTN (by decide) rfl (by omega) (by omega) dL_blocks_110 ?_
      refine M.to (pc := 111) (v2 := sa v N (rs (kdX r b) kd (((kdX r b) kd) + 1))) ?_ rfl rfl (by rw [sa_up0])
      refine M_iload_n (pc := 111) C dL_blocks_111 rfl ?_
      have hj_127 : M κ (N + 1) (newT T N 1 4) 127 [some (vR 0), some (vR ((a : Nat) : Int)), some (vR ((N : Nat) : Int)), some (vI (sumN (gpT r) b)), some (vI ((b : Nat) : Int)), some (vI ((kd : Nat) : Int)), some (vI ((pcN (v a b).toNat 16 : Nat) : Int)), some (vI (((lgN (v a b) 16).1 : Nat) : Int)), some (vI (((lgN (v a b) 16).2 : Nat) : Int)), some (vI 16)] [vI (gpT r b), vI (sumN (gpT r) b)] (sa v N (rs (kdX r b) kd (((kdX r b) kd) + 1))) 1 4 (QP κ (N + 1) (newT T N 1 4) (fun r1 v1 => r1 = some (vI 1) ∧ ∀ x, x ≠ N → v1 x = v x) 1 4) := by
        refine M_iadd (pc := 127) C dL_blocks_127 ?_
        refine M_istore_n (pc := 128) C dL_blocks_128 (by decide) ?_
        refine M.to (L2 := [some (vR 0), some (vR ((a : Nat) : Int)), some (vR ((N : Nat) : Int)), some (vI ((sumN (gpT r) b) + (gpT r b))), some (vI ((b : Nat) : Int)), some (vI ((kd : Nat) : Int)), some (vI ((pcN (v a b).toNat 16 : Nat) : Int)), some (vI (((lgN (v a b) 16).1 : Nat) : Int)), some (vI (((lgN (v a b) 16).2 : Nat) : Int)), some (vI 16)]) ?_ rfl rfl rfl
        refine M_iload (pc := 129) C dL_blocks_129 rfl ?_
        refine M_iconst (pc := 131) C dL_blocks_131 ?_
        refine M_icmp_ne (pc := 132) C (tgt := 170) (by omega) (by omega) dL_blocks_132 (by decide) (fun h_132 => ?_) (fun h_132 => ?_)
        · have hu4 := hf4 () (by omega)
          refine M_aload_n (pc := 170) C dL_blocks_170 rfl (by decide) ?_
          refine M_iload (pc := 171) C dL_blocks_171 rfl ?_
          refine M_iconst (pc := 173) C dL_blocks_173 ?_
          refine A_cV (pc := 174) C (x := vI (biF r b 4)) (a := 0) (c := 7) (c_X7_blockOf (v := sa v N (rs (kdX r b) kd (((kdX r b) kd) + 1))) (r := r) (c := c) (b := b) (w := 4) hT1 (hVx _) (by omega) (by omega)) yw_X7_blockOf lk_L_24 rfl (congrArg Prod.fst (tt_0 hT1)) hc_7 rfl dL_blocks_174 rfl (Nat.le_of_ble_eq_true rfl) (by decide) ⟨by decide, by decide⟩ ?_
          have hbi_174 := hBI (b9 := b) (w9 := 4) (by omega) (by omega)
          refine M_iconst (pc := 177) C dL_blocks_177 ?_
          refine M_icmp_ne (pc := 178) C (tgt := 185) (by omega) (by omega) dL_blocks_178 (by decide) (fun h_178 => ?_) (fun h_178 => ?_)
          · exfalso
            omega
          · refine M_iconst (pc := 181) C dL_blocks_181 ?_
            refine M_goto (pc := 182) C (tgt := 186) dL_blocks_182 (by decide) ?_
            refine M_istore (pc := 186) C dL_blocks_186 (by decide) ?_
            refine M.to (L2 := [some (vR 0), some (vR ((a : Nat) : Int)), some (vR ((N : Nat) : Int)), some (vI ((sumN (gpT r) b) + (gpT r b))), some (vI ((b : Nat) : Int)), some (vI ((kd : Nat) : Int)), some (vI ((pcN (v a b).toNat 16 : Nat) : Int)), some (vI (((lgN (v a b) 16).1 : Nat) : Int)), some (vI (((lgN (v a b) 16).2 : Nat) : Int)), some (vI 1)]) ?_ rfl rfl rfl
            refine M_iload (pc := 188) C dL_blocks_188 rfl ?_
            refine M_if_eq (pc := 190) C (tgt := 272) (by decide) dL_blocks_190 (by decide) (fun h => absurd h (by decide)) (fun _ => ?_)
            refine M_iload (pc := 193) C dL_blocks_193 rfl ?_
            refine M_iconst (pc := 195) C dL_blocks_195 ?_
            refine M_icmp_ne (pc := 196) C (tgt := 248) (by omega) (by omega) dL_blocks_196 (by decide) (fun h_196 => ?_) (fun h_196 => ?_)
            · obtain ⟨hw5, hw6⟩ := hf6 () (by omega)
              refine M_aload_n (pc := 248) C dL_blocks_248 rfl (by decide) ?_
              refine M_iload (pc := 249) C dL_blocks_249 rfl ?_
              refine M_iconst (pc := 251) C dL_blocks_251 ?_
              refine A_cV (pc := 252) C (x := vI (biF r b 2)) (a := 0) (c := 7) (c_X7_blockOf (v := sa v N (rs (kdX r b) kd (((kdX r b) kd) + 1))) (r := r) (c := c) (b := b) (w := 2) hT1 (hVx _) (by omega) (by omega)) yw_X7_blockOf lk_L_24 rfl (congrArg Prod.fst (tt_0 hT1)) hc_7 rfl dL_blocks_252 rfl (Nat.le_of_ble_eq_true rfl) (by decide) ⟨by decide, by decide⟩ ?_
              have hbi_252 := hBI (b9 := b) (w9 := 2) (by omega) (by omega)
              refine M_if_ne (pc := 255) C (tgt := 272) (by omega) dL_blocks_255 (by decide) (fun h_255 => ?_) (fun h_255 => ?_)
              · exfalso
                omega
              · refine M_aload_n (pc := 258) C dL_blocks_258 rfl (by decide) ?_
                refine M_iload (pc := 259) C dL_blocks_259 rfl ?_
                refine M_iconst (pc := 261) C dL_blocks_261 ?_
                refine A_cV (pc := 262) C (x := vI (biF r b 3)) (a := 0) (c := 7) (c_X7_blockOf (v := sa v N (rs (kdX r b) kd (((kdX r b) kd) + 1))) (r := r) (c := c) (b := b) (w := 3) hT1 (hVx _) (by omega) (by omega)) yw_X7_blockOf lk_L_24 rfl (congrArg Prod.fst (tt_0 hT1)) hc_7 rfl dL_blocks_262 rfl (Nat.le_of_ble_eq_true rfl) (by decide) ⟨by decide, by decide⟩ ?_
                have hbi_262 := hBI (b9 := b) (w9 := 3) (by omega) (by omega)
                refine M_if_ne (pc := 265) C (tgt := 272) (by omega) dL_blocks_265 (by decide) (fun h_265 => ?_) (fun h_265 => ?_)
                · exfalso
                  omega
                · refine M_iconst (pc := 268) C dL_blocks_268 ?_
                  refine M_goto (pc := 269) C (tgt := 273) dL_blocks_269 (by decide) ?_
                  refine M_istore (pc := 273) C dL_blocks_273 (by decide) ?_
                  refine M.to (L2 := [some (vR 0), some (vR ((a : Nat) : Int)), some (vR ((N : Nat) : Int)), some (vI ((sumN (gpT r) b) + (gpT r b))), some (vI ((b : Nat) : Int)), some (vI ((kd : Nat) : Int)), some (vI ((pcN (v a b).toNat 16 : Nat) : Int)), some (vI (((lgN (v a b) 16).1 : Nat) : Int)), some (vI (((lgN (v a b) 16).2 : Nat) : Int)), some (vI 1)]) ?_ rfl rfl rfl
                  refine M_iload (pc := 275) C dL_blocks_275 rfl ?_
                  refine M_if_eq (pc := 277) C (tgt := 296) (by decide) dL_blocks_277 (by decide) (fun h => absurd h (by decide)) (fun _ => ?_)
                  refine M_iload (pc := 280) C dL_blocks_280 rfl ?_
                  refine M_if_eq (pc := 282) C (tgt := 291) (by omega) dL_blocks_282 (by decide) (fun h_282 => ?_) (fun h_282 => ?_)
                  · have hu7 := hf7 () (by omega)
                    refine M_iload (pc := 291) C dL_blocks_291 rfl ?_
                    refine M_if_le (pc := 293) C (tgt := 298) (by omega) dL_blocks_293 (by decide) (fun h_293 => ?_) (fun h_293 => ?_)
                    · refine M_iinc (pc := 298) C dL_blocks_298 rfl (by decide) ?_
                      refine M.to (L2 := [some (vR 0), some (vR ((a : Nat) : Int)), some (vR ((N : Nat) : Int)), some (vI ((sumN (gpT r) b) + (gpT r b))), some (vI (((b : Nat) : Int) + 1)), some (vI ((kd : Nat) : Int)), some (vI ((pcN (v a b).toNat 16 : Nat) : Int)), some (vI (((lgN (v a b) 16).1 : Nat) : Int)), some (vI (((lgN (v a b) 16).2 : Nat) : Int)), some (vI 1)]) ?_ rfl rfl rfl
                      refine M_goto (pc := 301) C (tgt := 9) dL_blocks_301 (by decide) ?_
                      refine M.drop [true, true, true, true, true, false, false, false, false, false] rfl ?_
                      exact M.to (ihb (by omega)) rfl rfl (by rw [kdX_s hkd])
                    · exfalso
                      omega
                  · refine M_iload (pc := 285) C dL_blocks_285 rfl ?_
                    refine M_iconst (pc := 287) C dL_blocks_287 ?_
                    refine M_icmp_ne (pc := 288) C (tgt := 298) (by omega) (by omega) dL_blocks_288 (by decide) (fun h_288 => ?_) (fun h_288 => ?_)
                    · refine M_iinc (pc := 298) C dL_blocks_298 rfl (by decide) ?_
                      refine M.to (L2 := [some (vR 0), some (vR ((a : Nat) : Int)), some (vR ((N : Nat) : Int)), some (vI ((sumN (gpT r) b) + (gpT r b))), some (vI (((b : Nat) : Int) + 1)), some (vI ((kd : Nat) : Int)), some (vI ((pcN (v a b).toNat 16 : Nat) : Int)), some (vI (((lgN (v a b) 16).1 : Nat) : Int)), some (vI (((lgN (v a b) 16).2 : Nat) : Int)), some (vI 1)]) ?_ rfl rfl rfl
                      refine M_goto (pc := 301) C (tgt := 9) dL_blocks_301 (by decide) ?_
                      refine M.drop [true, true, true, true, true, false, false, false, false, false] rfl ?_
                      exact M.to (ihb (by omega)) rfl rfl (by rw [kdX_s hkd])
                    · have hu7 := hf7 () (by omega)
                      refine M_iload (pc := 291) C dL_blocks_291 rfl ?_
                      refine M_if_le (pc := 293) C (tgt := 298) (by omega) dL_blocks_293 (by decide) (fun h_293 => ?_) (fun h_293 => ?_)
                      · refine M_iinc (pc := 298) C dL_blocks_298 rfl (by decide) ?_
                        refine M.to (L2 := [some (vR 0), some (vR ((a : Nat) : Int)), some (vR ((N : Nat) : Int)), some (vI ((sumN (gpT r) b) + (gpT r b))), some (vI (((b : Nat) : Int) + 1)), some (vI ((kd : Nat) : Int)), some (vI ((pcN (v a b).toNat 16 : Nat) : Int)), some (vI (((lgN (v a b) 16).1 : Nat) : Int)), some (vI (((lgN (v a b) 16).2 : Nat) : Int)), some (vI 1)]) ?_ rfl rfl rfl
                        refine M_goto (pc := 301) C (tgt := 9) dL_blocks_301 (by decide) ?_
                        refine M.drop [true, true, true, true, true, false, false, false, false, false] rfl ?_
                        exact M.to (ihb (by omega)) rfl rfl (by rw [kdX_s hkd])
                      · exfalso
                        omega
            · obtain ⟨hw1, hw2, hw3, hw4⟩ := hf5 () (by omega)
              refine M_aload_n (pc := 199) C dL_blocks_199 rfl (by decide) ?_
              refine M_iload (pc := 200) C dL_blocks_200 rfl ?_
              refine M_iconst (pc := 202) C dL_blocks_202 ?_
              refine A_cV (pc := 203) C (x := vI (biF r b 2)) (a := 0) (c := 7) (c_X7_blockOf (v := sa v N (rs (kdX r b) kd (((kdX r b) kd) + 1))) (r := r) (c := c) (b := b) (w := 2) hT1 (hVx _) (by omega) (by omega)) yw_X7_blockOf lk_L_24 rfl (congrArg Prod.fst (tt_0 hT1)) hc_7 rfl dL_blocks_203 rfl (Nat.le_of_ble_eq_true rfl) (by decide) ⟨by decide, by decide⟩ ?_
              have hbi_203 := hBI (b9 := b) (w9 := 2) (by omega) (by omega)
              refine M_iload (pc := 206) C dL_blocks_206 rfl ?_
              refine M_icmp_ne (pc := 208) C (tgt := 272) (by omega) (by omega) dL_blocks_208 (by decide) (fun h_208 => ?_) (fun h_208 => ?_)
              · exfalso
                omega
              · refine M_aload_n (pc := 211) C dL_blocks_211 rfl (by decide) ?_
                refine M_iload (pc := 212) C dL_blocks_212 rfl ?_
                refine M_iconst (pc := 214) C dL_blocks_214 ?_
                refine A_cV (pc := 215) C (x := vI (biF r b 3)) (a := 0) (c := 7) (c_X7_blockOf (v := sa v N (rs (kdX r b) kd (((kdX r b) kd) + 1))) (r := r) (c := c) (b := b) (w := 3) hT1 (hVx _) (by omega) (by omega)) yw_X7_blockOf lk_L_24 rfl (congrArg Prod.fst (tt_0 hT1)) hc_7 rfl dL_blocks_215 rfl (Nat.le_of_ble_eq_true rfl) (by decide) ⟨by decide, by decide⟩ ?_
                have hbi_215 := hBI (b9 := b) (w9 := 3) (by omega) (by omega)
                refine M_iload (pc := 218) C dL_blocks_218 rfl ?_
                refine M_icmp_ne (pc := 220) C (tgt := 272) (by omega) (by omega) dL_blocks_220 (by decide) (fun h_220 => ?_) (fun h_220 => ?_)
                · exfalso
                  omega
                · refine M_aload_n (pc := 223) C dL_blocks_223 rfl (by decide) ?_
                  refine M_iload (pc := 224) C dL_blocks_224 rfl ?_
                  refine M_iconst (pc := 226) C dL_blocks_226 ?_
                  refine A_cV (pc := 227) C (x := vI (biF r b 1)) (a := 0) (c := 7) (c_X7_blockOf (v := sa v N (rs (kdX r b) kd (((kdX r b) kd) + 1))) (r := r) (c := c) (b := b) (w := 1) hT1 (hVx _) (by omega) (by omega)) yw_X7_blockOf lk_L_24 rfl (congrArg Prod.fst (tt_0 hT1)) hc_7 rfl dL_blocks_227 rfl (Nat.le_of_ble_eq_true rfl) (by decide) ⟨by decide, by decide⟩ ?_
                  have hbi_227 := hBI (b9 := b) (w9 := 1) (by omega) (by omega)
                  refine M_if_le (pc := 230) C (tgt := 272) (by omega) dL_blocks_230 (by decide) (fun h_230 => ?_) (fun h_230 => ?_)
                  · exfalso
                    omega
                  · refine M_aload_n (pc := 233) C dL_blocks_233 rfl (by decide) ?_
                    refine M_iload (pc := 234) C dL_blocks_234 rfl ?_
                    refine M_iconst (pc := 236) C dL_blocks_236 ?_
                    refine A_cV (pc := 237) C (x := vI (biF r b 1)) (a := 0) (c := 7) (c_X7_blockOf (v := sa v N (rs (kdX r b) kd (((kdX r b) kd) + 1))) (r := r) (c := c) (b := b) (w := 1) hT1 (hVx _) (by omega) (by omega)) yw_X7_blockOf lk_L_24 rfl (congrArg Prod.fst (tt_0 hT1)) hc_7 rfl dL_blocks_237 rfl (Nat.le_of_ble_eq_true rfl) (by decide) ⟨by decide, by decide⟩ ?_
                    have hbi_237 := hBI (b9 := b) (w9 := 1) (by omega) (by omega)
                    refine M_iload (pc := 240) C dL_blocks_240 rfl ?_
                    refine M_icmp_gt (pc := 242) C (tgt := 272) (by omega) (by omega) dL_blocks_242 (by decide) (fun h_242 => ?_) (fun h_242 => ?_)
                    · exfalso
                      omega
                    · refine M_goto (pc := 245) C (tgt := 268) dL_blocks_245 (by decide) ?_
                      refine M_iconst (pc := 268) C dL_blocks_268 ?_
                      refine M_goto (pc := 269) C (tgt := 273) dL_blocks_269 (by decide) ?_
                      refine M_istore (pc := 273) C dL_blocks_273 (by decide) ?_
                      refine M.to (L2 := [some (vR 0), some (vR ((a : Nat) : Int)), some (vR ((N : Nat) : Int)), some (vI ((sumN (gpT r) b) + (gpT r b))), some (vI ((b : Nat) : Int)), some (vI ((kd : Nat) : Int)), some (vI ((pcN (v a b).toNat 16 : Nat) : Int)), some (vI (((lgN (v a b) 16).1 : Nat) : Int)), some (vI (((lgN (v a b) 16).2 : Nat) : Int)), some (vI 1)]) ?_ rfl rfl rfl
                      refine M_iload (pc := 275) C dL_blocks_275 rfl ?_
                      refine M_if_eq (pc := 277) C (tgt := 296) (by decide) dL_blocks_277 (by decide) (fun h => absurd h (by decide)) (fun _ => ?_)
                      refine M_iload (pc := 280) C dL_blocks_280 rfl ?_
                      refine M_if_eq (pc := 282) C (tgt := 291) (by omega) dL_blocks_282 (by decide) (fun h_282 => ?_) (fun h_282 => ?_)
                      · have hu7 := hf7 () (by omega)
                        refine M_iload (pc := 291) C dL_blocks_291 rfl ?_
                        refine M_if_le (pc := 293) C (tgt := 298) (by omega) dL_blocks_293 (by decide) (fun h_293 => ?_) (fun h_293 => ?_)
                        · refine M_iinc (pc := 298) C dL_blocks_298 rfl (by decide) ?_
                          refine M.to (L2 := [some (vR 0), some (vR ((a : Nat) : Int)), some (vR ((N : Nat) : Int)), some (vI ((sumN (gpT r) b) + (gpT r b))), some (vI (((b : Nat) : Int) + 1)), some (vI ((kd : Nat) : Int)), some (vI ((pcN (v a b).toNat 16 : Nat) : Int)), some (vI (((lgN (v a b) 16).1 : Nat) : Int)), some (vI (((lgN (v a b) 16).2 : Nat) : Int)), some (vI 1)]) ?_ rfl rfl rfl
                          refine M_goto (pc := 301) C (tgt := 9) dL_blocks_301 (by decide) ?_
                          refine M.drop [true, true, true, true, true, false, false, false, false, false] rfl ?_
                          exact M.to (ihb (by omega)) rfl rfl (by rw [kdX_s hkd])
                        · exfalso
                          omega
                      · refine M_iload (pc := 285) C dL_blocks_285 rfl ?_
                        refine M_iconst (pc := 287) C dL_blocks_287 ?_
                        refine M_icmp_ne (pc := 288) C (tgt := 298) (by omega) (by omega) dL_blocks_288 (by decide) (fun h_288 => ?_) (fun h_288 => ?_)
                        · refine M_iinc (pc := 298) C dL_blocks_298 rfl (by decide) ?_
                          refine M.to (L2 := [some (vR 0), some (vR ((a : Nat) : Int)), some (vR ((N : Nat) : Int)), some (vI ((sumN (gpT r) b) + (gpT r b))), some (vI (((b : Nat) : Int) + 1)), some (vI ((kd : Nat) : Int)), some (vI ((pcN (v a b).toNat 16 : Nat) : Int)), some (vI (((lgN (v a b) 16).1 : Nat) : Int)), some (vI (((lgN (v a b) 16).2 : Nat) : Int)), some (vI 1)]) ?_ rfl rfl rfl
                          refine M_goto (pc := 301) C (tgt := 9) dL_blocks_301 (by decide) ?_
                          refine M.drop [true, true, true, true, true, false, false, false, false, false] rfl ?_
                          exact M.to (ihb (by omega)) rfl rfl (by rw [kdX_s hkd])
                        · have hu7 := hf7 () (by omega)
                          refine M_iload (pc := 291) C dL_blocks_291 rfl ?_
                          refine M_if_le (pc := 293) C (tgt := 298) (by omega) dL_blocks_293 (by decide) (fun h_293 => ?_) (fun h_293 => ?_)
                          · refine M_iinc (pc := 298) C dL_blocks_298 rfl (by decide) ?_
                            refine M.to (L2 := [some (vR 0), some (vR ((a : Nat) : Int)), some (vR ((N : Nat) : Int)), some (vI ((sumN (gpT r) b) + (gpT r b))), some (vI (((b : Nat) : Int) + 1)), some (vI ((kd : Nat) : Int)), some (vI ((pcN (v a b).toNat 16 : Nat) : Int)), some (vI (((lgN (v a b) 16).1 : Nat) : Int)), some (vI (((lgN (v a b) 16).2 : Nat) : Int)), some (vI 1)]) ?_ rfl rfl rfl
                            refine M_goto (pc := 301) C (tgt := 9) dL_blocks_301 (by decide) ?_
                            refine M.drop [true, true, true, true, true, false, false, false, false, false] rfl ?_
                            exact M.to (ihb (by omega)) rfl rfl (by rw [kdX_s hkd])
                          · exfalso
                            omega
        · obtain ⟨hu1, hu2, hu3⟩ := hf3 () (by omega)
          refine M_iload (pc := 135) C dL_blocks_135 rfl ?_
          refine M_bipush (pc := 137) C (by decide) dL_blocks_137 ?_
          refine M_icmp_ne (pc := 139) C (tgt := 166) (by omega) (by omega) dL_blocks_139 (by decide) (fun h_139 => ?_) (fun h_139 => ?_)
          · exfalso
            omega
          · refine M_aload_n (pc := 142) C dL_blocks_142 rfl (by decide) ?_
            refine M_iload (pc := 143) C dL_blocks_143 rfl ?_
            refine M_iconst (pc := 145) C dL_blocks_145 ?_
            refine A_cV (pc := 146) C (x := vI (biF r b 1)) (a := 0) (c := 7) (c_X7_blockOf (v := sa v N (rs (kdX r b) kd (((kdX r b) kd) + 1))) (r := r) (c := c) (b := b) (w := 1) hT1 (hVx _) (by omega) (by omega)) yw_X7_blockOf lk_L_24 rfl (congrArg Prod.fst (tt_0 hT1)) hc_7 rfl dL_blocks_146 rfl (Nat.le_of_ble_eq_true rfl) (by decide) ⟨by decide, by decide⟩ ?_
            have hbi_146 := hBI (b9 := b) (w9 := 1) (by omega) (by omega)
            refine M_if_ne (pc := 149) C (tgt := 166) (by omega) dL_blocks_149 (by decide) (fun h_149 => ?_) (fun h_149 => ?_)
            · exfalso
              omega
            · refine M_aload_n (pc := 152) C dL_blocks_152 rfl (by decide) ?_
              refine M_iload (pc := 153) C dL_blocks_153 rfl ?_
              refine M_iconst (pc := 155) C dL_blocks_155 ?_
              refine A_cV (pc := 156) C (x := vI (biF r b 4)) (a := 0) (c := 7) (c_X7_blockOf (v := sa v N (rs (kdX r b) kd (((kdX r b) kd) + 1))) (r := r) (c := c) (b := b) (w := 4) hT1 (hVx _) (by omega) (by omega)) yw_X7_blockOf lk_L_24 rfl (congrArg Prod.fst (tt_0 hT1)) hc_7 rfl dL_blocks_156 rfl (Nat.le_of_ble_eq_true rfl) (by decide) ⟨by decide, by decide⟩ ?_
              have hbi_156 := hBI (b9 := b) (w9 := 4) (by omega) (by omega)
              refine M_if_lt (pc := 159) C (tgt := 166) (by omega) dL_blocks_159 (by decide) (fun h_159 => ?_) (fun h_159 => ?_)
              · exfalso
                omega
              · refine M_iconst (pc := 162) C dL_blocks_162 ?_
                refine M_goto (pc := 163) C (tgt := 186) dL_blocks_163 (by decide) ?_
                refine M_istore (pc := 186) C dL_blocks_186 (by decide) ?_
                refine M.to (L2 := [some (vR 0), some (vR ((a : Nat) : Int)), some (vR ((N : Nat) : Int)), some (vI ((sumN (gpT r) b) + (gpT r b))), some (vI ((b : Nat) : Int)), some (vI ((kd : Nat) : Int)), some (vI ((pcN (v a b).toNat 16 : Nat) : Int)), some (vI (((lgN (v a b) 16).1 : Nat) : Int)), some (vI (((lgN (v a b) 16).2 : Nat) : Int)), some (vI 1)]) ?_ rfl rfl rfl
                refine M_iload (pc := 188) C dL_blocks_188 rfl ?_
                refine M_if_eq (pc := 190) C (tgt := 272) (by decide) dL_blocks_190 (by decide) (fun h => absurd h (by decide)) (fun _ => ?_)
                refine M_iload (pc := 193) C dL_blocks_193 rfl ?_
                refine M_iconst (pc := 195) C dL_blocks_195 ?_
                refine M_icmp_ne (pc := 196) C (tgt := 248) (by omega) (by omega) dL_blocks_196 (by decide) (fun h_196 => ?_) (fun h_196 => ?_)
                · obtain ⟨hw5, hw6⟩ := hf6 () (by omega)
                  refine M_aload_n (pc := 248) C dL_blocks_248 rfl (by decide) ?_
                  refine M_iload (pc := 249) C dL_blocks_249 rfl ?_
                  refine M_iconst (pc := 251) C dL_blocks_251 ?_
                  refine A_cV (pc := 252) C (x := vI (biF r b 2)) (a := 0) (c := 7) (c_X7_blockOf (v := sa v N (rs (kdX r b) kd (((kdX r b) kd) + 1))) (r := r) (c := c) (b := b) (w := 2) hT1 (hVx _) (by omega) (by omega)) yw_X7_blockOf lk_L_24 rfl (congrArg Prod.fst (tt_0 hT1)) hc_7 rfl dL_blocks_252 rfl (Nat.le_of_ble_eq_true rfl) (by decide) ⟨by decide, by decide⟩ ?_
                  have hbi_252 := hBI (b9 := b) (w9 := 2) (by omega) (by omega)
                  refine M_if_ne (pc := 255) C (tgt := 272) (by omega) dL_blocks_255 (by decide) (fun h_255 => ?_) (fun h_255 => ?_)
                  · exfalso
                    omega
                  · refine M_aload_n (pc := 258) C dL_blocks_258 rfl (by decide) ?_
                    refine M_iload (pc := 259) C dL_blocks_259 rfl ?_
                    refine M_iconst (pc := 261) C dL_blocks_261 ?_
                    refine A_cV (pc := 262) C (x := vI (biF r b 3)) (a := 0) (c := 7) (c_X7_blockOf (v := sa v N (rs (kdX r b) kd (((kdX r b) kd) + 1))) (r := r) (c := c) (b := b) (w := 3) hT1 (hVx _) (by omega) (by omega)) yw_X7_blockOf lk_L_24 rfl (congrArg Prod.fst (tt_0 hT1)) hc_7 rfl dL_blocks_262 rfl (Nat.le_of_ble_eq_true rfl) (by decide) ⟨by decide, by decide⟩ ?_
                    have hbi_262 := hBI (b9 := b) (w9 := 3) (by omega) (by omega)
                    refine M_if_ne (pc := 265) C (tgt := 272) (by omega) dL_blocks_265 (by decide) (fun h_265 => ?_) (fun h_265 => ?_)
                    · exfalso
                      omega
                    · refine M_iconst (pc := 268) C dL_blocks_268 ?_
                      refine M_goto (pc := 269) C (tgt := 273) dL_blocks_269 (by decide) ?_
                      refine M_istore (pc := 273) C dL_blocks_273 (by decide) ?_
                      refine M.to (L2 := [some (vR 0), some (vR ((a : Nat) : Int)), some (vR ((N : Nat) : Int)), some (vI ((sumN (gpT r) b) + (gpT r b))), some (vI ((b : Nat) : Int)), some (vI ((kd : Nat) : Int)), some (vI ((pcN (v a b).toNat 16 : Nat) : Int)), some (vI (((lgN (v a b) 16).1 : Nat) : Int)), some (vI (((lgN (v a b) 16).2 : Nat) : Int)), some (vI 1)]) ?_ rfl rfl rfl
                      refine M_iload (pc := 275) C dL_blocks_275 rfl ?_
                      refine M_if_eq (pc := 277) C (tgt := 296) (by decide) dL_blocks_277 (by decide) (fun h => absurd h (by decide)) (fun _ => ?_)
                      refine M_iload (pc := 280) C dL_blocks_280 rfl ?_
                      refine M_if_eq (pc := 282) C (tgt := 291) (by omega) dL_blocks_282 (by decide) (fun h_282 => ?_) (fun h_282 => ?_)
                      · have hu7 := hf7 () (by omega)
                        refine M_iload (pc := 291) C dL_blocks_291 rfl ?_
                        refine M_if_le (pc := 293) C (tgt := 298) (by omega) dL_blocks_293 (by decide) (fun h_293 => ?_) (fun h_293 => ?_)
                        · refine M_iinc (pc := 298) C dL_blocks_298 rfl (by decide) ?_
                          refine M.to (L2 := [some (vR 0), some (vR ((a : Nat) : Int)), some (vR ((N : Nat) : Int)), some (vI ((sumN (gpT r) b) + (gpT r b))), some (vI (((b : Nat) : Int) + 1)), some (vI ((kd : Nat) : Int)), some (vI ((pcN (v a b).toNat 16 : Nat) : Int)), some (vI (((lgN (v a b) 16).1 : Nat) : Int)), some (vI (((lgN (v a b) 16).2 : Nat) : Int)), some (vI 1)]) ?_ rfl rfl rfl
                          refine M_goto (pc := 301) C (tgt := 9) dL_blocks_301 (by decide) ?_
                          refine M.drop [true, true, true, true, true, false, false, false, false, false] rfl ?_
                          exact M.to (ihb (by omega)) rfl rfl (by rw [kdX_s hkd])
                        · exfalso
                          omega
                      · refine M_iload (pc := 285) C dL_blocks_285 rfl ?_
                        refine M_iconst (pc := 287) C dL_blocks_287 ?_
                        refine M_icmp_ne (pc := 288) C (tgt := 298) (by omega) (by omega) dL_blocks_288 (by decide) (fun h_288 => ?_) (fun h_288 => ?_)
                        · refine M_iinc (pc := 298) C dL_blocks_298 rfl (by decide) ?_
                          refine M.to (L2 := [some (vR 0), some (vR ((a : Nat) : Int)), some (vR ((N : Nat) : Int)), some (vI ((sumN (gpT r) b) + (gpT r b))), some (vI (((b : Nat) : Int) + 1)), some (vI ((kd : Nat) : Int)), some (vI ((pcN (v a b).toNat 16 : Nat) : Int)), some (vI (((lgN (v a b) 16).1 : Nat) : Int)), some (vI (((lgN (v a b) 16).2 : Nat) : Int)), some (vI 1)]) ?_ rfl rfl rfl
                          refine M_goto (pc := 301) C (tgt := 9) dL_blocks_301 (by decide) ?_
                          refine M.drop [true, true, true, true, true, false, false, false, false, false] rfl ?_
                          exact M.to (ihb (by omega)) rfl rfl (by rw [kdX_s hkd])
                        · have hu7 := hf7 () (by omega)
                          refine M_iload (pc := 291) C dL_blocks_291 rfl ?_
                          refine M_if_le (pc := 293) C (tgt := 298) (by omega) dL_blocks_293 (by decide) (fun h_293 => ?_) (fun h_293 => ?_)
                          · refine M_iinc (pc := 298) C dL_blocks_298 rfl (by decide) ?_
                            refine M.to (L2 := [some (vR 0), some (vR ((a : Nat) : Int)), some (vR ((N : Nat) : Int)), some (vI ((sumN (gpT r) b) + (gpT r b))), some (vI (((b : Nat) : Int) + 1)), some (vI ((kd : Nat) : Int)), some (vI ((pcN (v a b).toNat 16 : Nat) : Int)), some (vI (((lgN (v a b) 16).1 : Nat) : Int)), some (vI (((lgN (v a b) 16).2 : Nat) : Int)), some (vI 1)]) ?_ rfl rfl rfl
                            refine M_goto (pc := 301) C (tgt := 9) dL_blocks_301 (by decide) ?_
                            refine M.drop [true, true, true, true, true, false, false, false, false, false] rfl ?_
                            exact M.to (ihb (by omega)) rfl rfl (by rw [kdX_s hkd])
                          · exfalso
                            omega
                · obtain ⟨hw1, hw2, hw3, hw4⟩ := hf5 () (by omega)
                  refine M_aload_n (pc := 199) C dL_blocks_199 rfl (by decide) ?_
                  refine M_iload (pc := 200) C dL_blocks_200 rfl ?_
                  refine M_iconst (pc := 202) C dL_blocks_202 ?_
                  refine A_cV (pc := 203) C (x := vI (biF r b 2)) (a := 0) (c := 7) (c_X7_blockOf (v := sa v N (rs (kdX r b) kd (((kdX r b) kd) + 1))) (r := r) (c := c) (b := b) (w := 2) hT1 (hVx _) (by omega) (by omega)) yw_X7_blockOf lk_L_24 rfl (congrArg Prod.fst (tt_0 hT1)) hc_7 rfl dL_blocks_203 rfl (Nat.le_of_ble_eq_true rfl) (by decide) ⟨by decide, by decide⟩ ?_
                  have hbi_203 := hBI (b9 := b) (w9 := 2) (by omega) (by omega)
                  refine M_iload (pc := 206) C dL_blocks_206 rfl ?_
                  refine M_icmp_ne (pc := 208) C (tgt := 272) (by omega) (by omega) dL_blocks_208 (by decide) (fun h_208 => ?_) (fun h_208 => ?_)
                  · exfalso
                    omega
                  · refine M_aload_n (pc := 211) C dL_blocks_211 rfl (by decide) ?_
                    refine M_iload (pc := 212) C dL_blocks_212 rfl ?_
                    refine M_iconst (pc := 214) C dL_blocks_214 ?_
                    refine A_cV (pc := 215) C (x := vI (biF r b 3)) (a := 0) (c := 7) (c_X7_blockOf (v := sa v N (rs (kdX r b) kd (((kdX r b) kd) + 1))) (r := r) (c := c) (b := b) (w := 3) hT1 (hVx _) (by omega) (by omega)) yw_X7_blockOf lk_L_24 rfl (congrArg Prod.fst (tt_0 hT1)) hc_7 rfl dL_blocks_215 rfl (Nat.le_of_ble_eq_true rfl) (by decide) ⟨by decide, by decide⟩ ?_
                    have hbi_215 := hBI (b9 := b) (w9 := 3) (by omega) (by omega)
                    refine M_iload (pc := 218) C dL_blocks_218 rfl ?_
                    refine M_icmp_ne (pc := 220) C (tgt := 272) (by omega) (by omega) dL_blocks_220 (by decide) (fun h_220 => ?_) (fun h_220 => ?_)
                    · exfalso
                      omega
                    · refine M_aload_n (pc := 223) C dL_blocks_223 rfl (by decide) ?_
                      refine M_iload (pc := 224) C dL_blocks_224 rfl ?_
                      refine M_iconst (pc := 226) C dL_blocks_226 ?_
                      refine A_cV (pc := 227) C (x := vI (biF r b 1)) (a := 0) (c := 7) (c_X7_blockOf (v := sa v N (rs (kdX r b) kd (((kdX r b) kd) + 1))) (r := r) (c := c) (b := b) (w := 1) hT1 (hVx _) (by omega) (by omega)) yw_X7_blockOf lk_L_24 rfl (congrArg Prod.fst (tt_0 hT1)) hc_7 rfl dL_blocks_227 rfl (Nat.le_of_ble_eq_true rfl) (by decide) ⟨by decide, by decide⟩ ?_
                      have hbi_227 := hBI (b9 := b) (w9 := 1) (by omega) (by omega)
                      refine M_if_le (pc := 230) C (tgt := 272) (by omega) dL_blocks_230 (by decide) (fun h_230 => ?_) (fun h_230 => ?_)
                      · exfalso
                        omega
                      · refine M_aload_n (pc := 233) C dL_blocks_233 rfl (by decide) ?_
                        refine M_iload (pc := 234) C dL_blocks_234 rfl ?_
                        refine M_iconst (pc := 236) C dL_blocks_236 ?_
                        refine A_cV (pc := 237) C (x := vI (biF r b 1)) (a := 0) (c := 7) (c_X7_blockOf (v := sa v N (rs (kdX r b) kd (((kdX r b) kd) + 1))) (r := r) (c := c) (b := b) (w := 1) hT1 (hVx _) (by omega) (by omega)) yw_X7_blockOf lk_L_24 rfl (congrArg Prod.fst (tt_0 hT1)) hc_7 rfl dL_blocks_237 rfl (Nat.le_of_ble_eq_true rfl) (by decide) ⟨by decide, by decide⟩ ?_
                        have hbi_237 := hBI (b9 := b) (w9 := 1) (by omega) (by omega)
                        refine M_iload (pc := 240) C dL_blocks_240 rfl ?_
                        refine M_icmp_gt (pc := 242) C (tgt := 272) (by omega) (by omega) dL_blocks_242 (by decide) (fun h_242 => ?_) (fun h_242 => ?_)
                        · exfalso
                          omega
                        · refine M_goto (pc := 245) C (tgt := 268) dL_blocks_245 (by decide) ?_
                          refine M_iconst (pc := 268) C dL_blocks_268 ?_
                          refine M_goto (pc := 269) C (tgt := 273) dL_blocks_269 (by decide) ?_
                          refine M_istore (pc := 273) C dL_blocks_273 (by decide) ?_
                          refine M.to (L2 := [some (vR 0), some (vR ((a : Nat) : Int)), some (vR ((N : Nat) : Int)), some (vI ((sumN (gpT r) b) + (gpT r b))), some (vI ((b : Nat) : Int)), some (vI ((kd : Nat) : Int)), some (vI ((pcN (v a b).toNat 16 : Nat) : Int)), some (vI (((lgN (v a b) 16).1 : Nat) : Int)), some (vI (((lgN (v a b) 16).2 : Nat) : Int)), some (vI 1)]) ?_ rfl rfl rfl
                          refine M_iload (pc := 275) C dL_blocks_275 rfl ?_
                          refine M_if_eq (pc := 277) C (tgt := 296) (by decide) dL_blocks_277 (by decide) (fun h => absurd h (by decide)) (fun _ => ?_)
                          refine M_iload (pc := 280) C dL_blocks_280 rfl ?_
                          refine M_if_eq (pc := 282) C (tgt := 291) (by omega) dL_blocks_282 (by decide) (fun h_282 => ?_) (fun h_282 => ?_)
                          · have hu7 := hf7 () (by omega)
                            refine M_iload (pc := 291) C dL_blocks_291 rfl ?_
                            refine M_if_le (pc := 293) C (tgt := 298) (by omega) dL_blocks_293 (by decide) (fun h_293 => ?_) (fun h_293 => ?_)
                            · refine M_iinc (pc := 298) C dL_blocks_298 rfl (by decide) ?_
                              refine M.to (L2 := [some (vR 0), some (vR ((a : Nat) : Int)), some (vR ((N : Nat) : Int)), some (vI ((sumN (gpT r) b) + (gpT r b))), some (vI (((b : Nat) : Int) + 1)), some (vI ((kd : Nat) : Int)), some (vI ((pcN (v a b).toNat 16 : Nat) : Int)), some (vI (((lgN (v a b) 16).1 : Nat) : Int)), some (vI (((lgN (v a b) 16).2 : Nat) : Int)), some (vI 1)]) ?_ rfl rfl rfl
                              refine M_goto (pc := 301) C (tgt := 9) dL_blocks_301 (by decide) ?_
                              refine M.drop [true, true, true, true, true, false, false, false, false, false] rfl ?_
                              exact M.to (ihb (by omega)) rfl rfl (by rw [kdX_s hkd])
                            · exfalso
                              omega
                          · refine M_iload (pc := 285) C dL_blocks_285 rfl ?_
                            refine M_iconst (pc := 287) C dL_blocks_287 ?_
                            refine M_icmp_ne (pc := 288) C (tgt := 298) (by omega) (by omega) dL_blocks_288 (by decide) (fun h_288 => ?_) (fun h_288 => ?_)
                            · refine M_iinc (pc := 298) C dL_blocks_298 rfl (by decide) ?_
                              refine M.to (L2 := [some (vR 0), some (vR ((a : Nat) : Int)), some (vR ((N : Nat) : Int)), some (vI ((sumN (gpT r) b) + (gpT r b))), some (vI (((b : Nat) : Int) + 1)), some (vI ((kd : Nat) : Int)), some (vI ((pcN (v a b).toNat 16 : Nat) : Int)), some (vI (((lgN (v a b) 16).1 : Nat) : Int)), some (vI (((lgN (v a b) 16).2 : Nat) : Int)), some (vI 1)]) ?_ rfl rfl rfl
                              refine M_goto (pc := 301) C (tgt := 9) dL_blocks_301 (by decide) ?_
                              refine M.drop [true, true, true, true, true, false, false, false, false, false] rfl ?_
                              exact M.to (ihb (by omega)) rfl rfl (by rw [kdX_s hkd])
                            · have hu7 := hf7 () (by omega)
                              refine M_iload (pc := 291) C dL_blocks_291 rfl ?_
                              refine M_if_le (pc := 293) C (tgt := 298) (by omega) dL_blocks_293 (by decide) (fun h_293 => ?_) (fun h_293 => ?_)
                              · refine M_iinc (pc := 298) C dL_blocks_298 rfl (by decide) ?_
                                refine M.to (L2 := [some (vR 0), some (vR ((a : Nat) : Int)), some (vR ((N : Nat) : Int)), some (vI ((sumN (gpT r) b) + (gpT r b))), some (vI (((b : Nat) : Int) + 1)), some (vI ((kd : Nat) : Int)), some (vI ((pcN (v a b).toNat 16 : Nat) : Int)), some (vI (((lgN (v a b) 16).1 : Nat) : Int)), some (vI (((lgN (v a b) 16).2 : Nat) : Int)), some (vI 1)]) ?_ rfl rfl rfl
                                refine M_goto (pc := 301) C (tgt := 9) dL_blocks_301 (by decide) ?_
                                refine M.drop [true, true, true, true, true, false, false, false, false, false] rfl ?_
                                exact M.to (ihb (by omega)) rfl rfl (by rw [kdX_s hkd])
                              · exfalso
                                omega
      refine M_iload (pc := 112) C dL_blocks_112 rfl ?_
      refine M_iconst (pc := 114) C dL_blocks_114 ?_
      refine M_icmp_ne (pc := 115) C (tgt := 126) (by omega) (by omega) dL_blocks_115 (by decide) (fun h_115 => ?_) (fun h_115 => ?_)
      · refine M_iconst (pc := 126) C dL_blocks_126 ?_
        exact M.to hj_127 rfl (by first | (rw [hf9 () (by omega)]; done) | (rw [hg0 () (by omega)]; done)) rfl
      · refine M_bipush (pc := 118) C (by decide) dL_blocks_118 ?_
        refine M_iload (pc := 120) C dL_blocks_120 rfl ?_
        refine M_isub (pc := 122) C dL_blocks_122 ?_
        refine M_goto (pc := 123) C (tgt := 127) dL_blocks_123 (by decide) ?_
        exact M.to hj_127 rfl (by first | (rw [hf9 () (by omega)]; done) | (rw [hg0 () (by omega)]; done)) rfl
    · have hcs : ((pcN (v a b).toNat q : Nat) : Int) + v a b / 2 ^ (((q : Nat) : Int)).toNat % 2 ^ 1 = ((pcN (v a b).toNat (q + 1) : Nat) : Int) := pcN_i hvb.1 q
      have hlq := lgN_bd (v a b) q
      refine M_iload (pc := 44) C dL_blocks_44 rfl ?_
      refine M_aload_n (pc := 46) C dL_blocks_46 rfl (by omega) ?_
      refine M_iload (pc := 47) C dL_blocks_47 rfl ?_
      refine A_iald (pc := 49) C (a := a) (q := b) rfl hTa1 (by decide) rfl (by omega) dL_blocks_49 (fun r_49 => ?_)
      have r_49 : i32 (v a b) := by first | exact r_49 | (rw [sa_eq] at r_49; exact r_49) | (rw [sa_ne (by omega)] at r_49; exact r_49)
      refine M.to (pc := 50) (st2 := [vI (v a b), vI ((pcN (v a b).toNat q : Nat) : Int)]) ?_ rfl (by first | rfl | (rw [sa_eq]; done) | (rw [sa_ne (by omega)]; done)) rfl
      refine M_iload (pc := 50) C dL_blocks_50 rfl ?_
      refine M_ishr (pc := 52) C (by omega) (by omega) dL_blocks_52 ?_
      refine M_iconst (pc := 53) C dL_blocks_53 ?_
      refine M_imask (pc := 54) C 1 (by decide) (by decide) dL_blocks_54 ?_
      refine M_iadd (pc := 55) C dL_blocks_55 ?_
      refine M_istore (pc := 56) C dL_blocks_56 (by decide) ?_
      refine M.to (L2 := [some (vR 0), some (vR ((a : Nat) : Int)), some (vR ((N : Nat) : Int)), some (vI (sumN (gpT r) b)), some (vI ((b : Nat) : Int)), some (vI ((kd : Nat) : Int)), some (vI (((pcN (v a b).toNat q : Nat) : Int) + (((v a b) / 2 ^ (((q : Nat) : Int)).toNat) % 2 ^ 1))), some (vI (((lgN (v a b) q).1 : Nat) : Int)), some (vI (((lgN (v a b) q).2 : Nat) : Int)), some (vI ((q : Nat) : Int))]) ?_ rfl rfl rfl
      refine M_aload_n (pc := 58) C dL_blocks_58 rfl (by omega) ?_
      refine M_iload (pc := 59) C dL_blocks_59 rfl ?_
      refine A_iald (pc := 61) C (a := a) (q := b) rfl hTa1 (by decide) rfl (by omega) dL_blocks_61 (fun r_61 => ?_)
      have r_61 : i32 (v a b) := by first | exact r_61 | (rw [sa_eq] at r_61; exact r_61) | (rw [sa_ne (by omega)] at r_61; exact r_61)
      refine M.to (pc := 62) (st2 := [vI (v a b)]) ?_ rfl (by first | rfl | (rw [sa_eq]; done) | (rw [sa_ne (by omega)]; done)) rfl
      refine M_iload (pc := 62) C dL_blocks_62 rfl ?_
      refine M_ishr (pc := 64) C (by omega) (by omega) dL_blocks_64 ?_
      refine M_iconst (pc := 65) C dL_blocks_65 ?_
      refine M_imask (pc := 66) C 1 (by decide) (by decide) dL_blocks_66 ?_
      refine M_iconst (pc := 67) C dL_blocks_67 ?_
      refine M_icmp_ne (pc := 68) C (tgt := 75) (by omega) (by omega) dL_blocks_68 (by decide) (fun h_68 => ?_) (fun h_68 => ?_)
      · have hl1 := lgN_f (t := v a b) (c := q) (decide_eq_false h_68)
        refine M_iload (pc := 75) C dL_blocks_75 rfl ?_
        refine M_iconst (pc := 77) C dL_blocks_77 ?_
        refine M_iadd (pc := 78) C dL_blocks_78 ?_
        refine M_istore (pc := 79) C dL_blocks_79 (by decide) ?_
        refine M.to (L2 := [some (vR 0), some (vR ((a : Nat) : Int)), some (vR ((N : Nat) : Int)), some (vI (sumN (gpT r) b)), some (vI ((b : Nat) : Int)), some (vI ((kd : Nat) : Int)), some (vI (((pcN (v a b).toNat q : Nat) : Int) + (((v a b) / 2 ^ (((q : Nat) : Int)).toNat) % 2 ^ 1))), some (vI (((lgN (v a b) q).1 : Nat) : Int)), some (vI ((((lgN (v a b) q).2 : Nat) : Int) + 1)), some (vI ((q : Nat) : Int))]) ?_ rfl rfl rfl
        refine M_iload (pc := 81) C dL_blocks_81 rfl ?_
        refine M_iload (pc := 83) C dL_blocks_83 rfl ?_
        refine M_icmp_le (pc := 85) C (tgt := 93) (by omega) (by omega) dL_blocks_85 (by decide) (fun h_85 => ?_) (fun h_85 => ?_)
        · refine M_iload (pc := 93) C dL_blocks_93 rfl ?_
          refine M_istore (pc := 95) C dL_blocks_95 (by decide) ?_
          refine M.to (L2 := [some (vR 0), some (vR ((a : Nat) : Int)), some (vR ((N : Nat) : Int)), some (vI (sumN (gpT r) b)), some (vI ((b : Nat) : Int)), some (vI ((kd : Nat) : Int)), some (vI (((pcN (v a b).toNat q : Nat) : Int) + (((v a b) / 2 ^ (((q : Nat) : Int)).toNat) % 2 ^ 1))), some (vI (((lgN (v a b) q).1 : Nat) : Int)), some (vI ((((lgN (v a b) q).2 : Nat) : Int) + 1)), some (vI ((q : Nat) : Int))]) ?_ rfl rfl rfl
          refine M_iinc (pc := 97) C dL_blocks_97 rfl (by decide) ?_
          refine M.to (L2 := [some (vR 0), some (vR ((a : Nat) : Int)), some (vR ((N : Nat) : Int)), some (vI (sumN (gpT r) b)), some (vI ((b : Nat) : Int)), some (vI ((kd : Nat) : Int)), some (vI (((pcN (v a b).toNat q : Nat) : Int) + (((v a b) / 2 ^ (((q : Nat) : Int)).toNat) % 2 ^ 1))), some (vI (((lgN (v a b) q).1 : Nat) : Int)), some (vI ((((lgN (v a b) q).2 : Nat) : Int) + 1)), some (vI (((q : Nat) : Int) + 1))]) ?_ rfl rfl rfl
          refine M_goto (pc := 100) C (tgt := 37) dL_blocks_100 (by decide) ?_
          exact M.to (ihq (by omega)) (by rw [hcs, hl1] <;> first | rfl | (rw [show max (lgN (v a b) q).1 ((lgN (v a b) q).2 + 1) = (lgN (v a b) q).2 + 1 by omega] <;> rfl) | (rw [show max (lgN (v a b) q).1 ((lgN (v a b) q).2 + 1) = (lgN (v a b) q).1 by omega] <;> rfl)) rfl rfl
        · refine M_iload (pc := 88) C dL_blocks_88 rfl ?_
          refine M_goto (pc := 90) C (tgt := 95) dL_blocks_90 (by decide) ?_
          refine M_istore (pc := 95) C dL_blocks_95 (by decide) ?_
          refine M.to (L2 := [some (vR 0), some (vR ((a : Nat) : Int)), some (vR ((N : Nat) : Int)), some (vI (sumN (gpT r) b)), some (vI ((b : Nat) : Int)), some (vI ((kd : Nat) : Int)), some (vI (((pcN (v a b).toNat q : Nat) : Int) + (((v a b) / 2 ^ (((q : Nat) : Int)).toNat) % 2 ^ 1))), some (vI ((((lgN (v a b) q).2 : Nat) : Int) + 1)), some (vI ((((lgN (v a b) q).2 : Nat) : Int) + 1)), some (vI ((q : Nat) : Int))]) ?_ rfl rfl rfl
          refine M_iinc (pc := 97) C dL_blocks_97 rfl (by decide) ?_
          refine M.to (L2 := [some (vR 0), some (vR ((a : Nat) : Int)), some (vR ((N : Nat) : Int)), some (vI (sumN (gpT r) b)), some (vI ((b : Nat) : Int)), some (vI ((kd : Nat) : Int)), some (vI (((pcN (v a b).toNat q : Nat) : Int) + (((v a b) / 2 ^ (((q : Nat) : Int)).toNat) % 2 ^ 1))), some (vI ((((lgN (v a b) q).2 : Nat) : Int) + 1)), some (vI ((((lgN (v a b) q).2 : Nat) : Int) + 1)), some (vI (((q : Nat) : Int) + 1))]) ?_ rfl rfl rfl
          refine M_goto (pc := 100) C (tgt := 37) dL_blocks_100 (by decide) ?_
          exact M.to (ihq (by omega)) (by rw [hcs, hl1] <;> first | rfl | (rw [show max (lgN (v a b) q).1 ((lgN (v a b) q).2 + 1) = (lgN (v a b) q).2 + 1 by omega] <;> rfl) | (rw [show max (lgN (v a b) q).1 ((lgN (v a b) q).2 + 1) = (lgN (v a b) q).1 by omega] <;> rfl)) rfl rfl
      · have hl1 := lgN_t (t := v a b) (c := q) (decide_eq_true h_68)
        refine M_iconst (pc := 71) C dL_blocks_71 ?_
        refine M_goto (pc := 72) C (tgt := 79) dL_blocks_72 (by decide) ?_
        refine M_istore (pc := 79) C dL_blocks_79 (by decide) ?_
        refine M.to (L2 := [some (vR 0), some (vR ((a : Nat) : Int)), some (vR ((N : Nat) : Int)), some (vI (sumN (gpT r) b)), some (vI ((b : Nat) : Int)), some (vI ((kd : Nat) : Int)), some (vI (((pcN (v a b).toNat q : Nat) : Int) + (((v a b) / 2 ^ (((q : Nat) : Int)).toNat) % 2 ^ 1))), some (vI (((lgN (v a b) q).1 : Nat) : Int)), some (vI 0), some (vI ((q : Nat) : Int))]) ?_ rfl rfl rfl
        refine M_iload (pc := 81) C dL_blocks_81 rfl ?_
        refine M_iload (pc := 83) C dL_blocks_83 rfl ?_
        refine M_icmp_le (pc := 85) C (tgt := 93) (by omega) (by omega) dL_blocks_85 (by decide) (fun h_85 => ?_) (fun h_85 => ?_)
        · refine M_iload (pc := 93) C dL_blocks_93 rfl ?_
          refine M_istore (pc := 95) C dL_blocks_95 (by decide) ?_
          refine M.to (L2 := [some (vR 0), some (vR ((a : Nat) : Int)), some (vR ((N : Nat) : Int)), some (vI (sumN (gpT r) b)), some (vI ((b : Nat) : Int)), some (vI ((kd : Nat) : Int)), some (vI (((pcN (v a b).toNat q : Nat) : Int) + (((v a b) / 2 ^ (((q : Nat) : Int)).toNat) % 2 ^ 1))), some (vI (((lgN (v a b) q).1 : Nat) : Int)), some (vI 0), some (vI ((q : Nat) : Int))]) ?_ rfl rfl rfl
          refine M_iinc (pc := 97) C dL_blocks_97 rfl (by decide) ?_
          refine M.to (L2 := [some (vR 0), some (vR ((a : Nat) : Int)), some (vR ((N : Nat) : Int)), some (vI (sumN (gpT r) b)), some (vI ((b : Nat) : Int)), some (vI ((kd : Nat) : Int)), some (vI (((pcN (v a b).toNat q : Nat) : Int) + (((v a b) / 2 ^ (((q : Nat) : Int)).toNat) % 2 ^ 1))), some (vI (((lgN (v a b) q).1 : Nat) : Int)), some (vI 0), some (vI (((q : Nat) : Int) + 1))]) ?_ rfl rfl rfl
          refine M_goto (pc := 100) C (tgt := 37) dL_blocks_100 (by decide) ?_
          exact M.to (ihq (by omega)) (by rw [hcs, hl1] <;> first | rfl | (rw [show max (lgN (v a b) q).1 ((lgN (v a b) q).2 + 1) = (lgN (v a b) q).2 + 1 by omega] <;> rfl) | (rw [show max (lgN (v a b) q).1 ((lgN (v a b) q).2 + 1) = (lgN (v a b) q).1 by omega] <;> rfl)) rfl rfl
        · exfalso
          omega
