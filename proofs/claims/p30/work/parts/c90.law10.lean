set_option maxHeartbeats 8000000 in
theorem L_tail {κ : KX} {nm : String} {d mc ms N q len : Nat} {T : Ty} {v : Ct} {xs : Nat → Int32} {t c : Int} {k kc nc : Nat} {Q : State → Prop} {e4 e5 e6 e7 e8 e9 e10 e11 : Option MV} (C : CX κ (mLn nm) d mc ms) (hd : 40 ≤ d) (h : PI N T v t c) (hc : c < 800000) (hkc : kc + 10 ≤ mc) (hnc : nc + 100 ≤ ms) (hk : k < 44) (kk : ∀ (N1 : Nat) (T1 : Ty) (v1 : Ct) (t1 : Int) (k1 n1 : Nat) (e4 e5 e6 e7 e8 e9 e10 e11 : Option MV), PI N1 T1 v1 t1 c → k1 ≤ kc + 2 → n1 ≤ nc + 28 → M κ N1 T1 471 (LQP q t1 k e4 e5 e6 e7 e8 e9 e10 e11) [] v1 k1 n1 Q) : M κ N T 437 (LQP q t k e4 e5 e6 e7 e8 (some (vI 1)) e10 e11) [] v kc nc Q := by
  obtain ⟨hT, hN, r, P, s, hV, hHV, ht, hPk⟩ := h
  have hH : DR (v 2) (v 3) (v 4) (v 5) (v 6) (v 7) (v 8) (v 9) r := hV.1
  have hC : CNT (v 1) (v 9) r c := hV.2
  have hs := hHV.1
  have hs6 := hHV.2.1
  have hfr_v : fr v v := fun _ _ => rfl
  obtain ⟨hr0, hr1, hr2, hrP⟩ := hC.bds (by omega)
  have hBI : ∀ {b9 w9 : Nat}, b9 < 24 → w9 < 5 → -1 ≤ biF r b9 w9 ∧ biF r b9 w9 ≤ 24 := fun h1 h2 => hH.biB h1 h2
  have hPR : ∀ {f9 w9 : Nat}, f9 < 10 → ro r f9 0 = 1 → w9 < 7 → -1 ≤ prF r f9 w9 ∧ prF r f9 w9 ≤ 1000000 := fun h1 h2 h3 => hH.prB hrP h1 h2 h3
  have hCT : ∀ {w9 : Nat}, w9 < 12 → 0 ≤ ctX r s w9 ∧ ctX r s w9 ≤ 1000000 := fun h => hH.ctB ⟨by omega, by omega⟩ ⟨by omega, by omega⟩ hr2 hs6 h
  clear hr2
  have htb := ht.1
  have hon := ht.ones
  have hfi0 := sum_ro r (fun f hf => hH.ro01 hf)
  refine M_iload (pc := 437) C dL_law_437 rfl ?_
  refine M_if_eq (pc := 439) C (tgt := 469) (by decide) dL_law_439 (by decide) (fun h => absurd h (by decide)) (fun _ => ?_)
  refine M_aload_n (pc := 442) C dL_law_442 rfl (by decide) ?_
  refine M_iconst (pc := 443) C dL_law_443 ?_
  refine A_cV (pc := 444) C (x := vI (ctX r s 0)) (a := 0) (c := 7) (c_X7_count (v := v) (r := r) (c := c) (s := s) (w := 0) hT hV (by omega) hs) yw_X7_count lk_L_31 rfl (congrArg Prod.fst (tt_0 hT)) hc_7 rfl dL_law_444 rfl (Nat.le_of_ble_eq_true rfl) (by omega) ⟨by omega, by omega⟩ ?_
  have hct_444 := hCT (w9 := 0) (by omega)
  have hck_444 : ctX r s 0 = filF r := rfl
  refine M_iload_n (pc := 447) C dL_law_447 rfl ?_
  refine A_cS (pc := 448) C (x := vI (sumN (fun f => t / 2 ^ f % 2) 10)) (c_L_ones (v := v) (t := t) hT (by omega)) yw_L_ones lk_L_106 rfl dL_law_448 rfl (Nat.le_of_ble_eq_true rfl) (by omega) ⟨by omega, by omega⟩ ?_
  refine M_icmp_ne (pc := 451) C (tgt := 469) (by omega) (by omega) dL_law_451 (by decide) (fun h_451 => ?_) (fun h_451 => ?_)
  · exact absurd (ht.ones).symm h_451
  · refine M_iload_n (pc := 454) C dL_law_454 rfl ?_
    refine M_iconst (pc := 455) C dL_law_455 ?_
    refine M_irem (pc := 456) C (by omega) (by decide) dL_law_456 ?_
    refine M_iconst (pc := 457) C dL_law_457 ?_
    refine M_icmp_ne (pc := 458) C (tgt := 471) (by omega) (by omega) dL_law_458 (by decide) (fun h_458 => ?_) (fun h_458 => ?_)
    · exact kk _ _ _ _ _ _ _ _ _ _ _ _ _ _ ⟨hT, hN, r, P, s, hV, hHV, ht, hPk⟩ (by omega) (by omega)
    · refine M_aload_n (pc := 461) C dL_law_461 rfl (by decide) ?_
      refine M_iload_n (pc := 462) C dL_law_462 rfl ?_
      refine M_callS (pc := 463) C (c_L_places (v := v) (r := r) (c := c) (P := P) (s := s) (t := t) hT hV hHV (by omega) hN ht hPk) yw_L_places lk_L_109 rfl dL_law_463 rfl (Nat.le_of_ble_eq_true rfl) (by omega) ⟨by omega, by omega⟩ (fun r1 v1 p1 => ?_)
      obtain ⟨rfl, hf1⟩ := p1
      have hV2 : DV v1 1 r c := hV.same (fun k hk => hf1 _ (by omega)) (fun _ _ => rfl)
      have hHV2 : HVr v1 P s c := hHV.same (fun a h1 h2 => hf1 a (by omega))
      have hT2 : TT (newT (newT T N 1 24) (N + 1) 1 4) := (hT.nw hN).nw (by omega)
      refine M_if_ne (pc := 466) C (tgt := 471) (by decide) dL_law_466 (by decide) (fun _ => ?_) (fun h => absurd h (by decide))
      exact kk _ _ _ _ _ _ _ _ _ _ _ _ _ _ ⟨hT2, by omega, r, P, s, hV2, hHV2, ht, hPk⟩ (by omega) (by omega)
set_option maxHeartbeats 8000000 in
theorem L_fin {κ : KX} {nm : String} {d mc ms N q len : Nat} {T : Ty} {v : Ct} {xs : Nat → Int32} {t c : Int} {k kc nc : Nat} {Q : State → Prop} {e4 e5 e6 e7 e8 e9 e10 e11 : Option MV} (C : CX κ (mLn nm) d mc ms) (hd : 40 ≤ d) (h : PI N T v t c) (hc : c < 800000) (hkc : kc + 10 ≤ mc) (hnc : nc + 100 ≤ ms) (fin : ∀ (N1 : Nat) (T1 : Ty) (v1 : Ct) (k1 n1 : Nat), k1 ≤ mc → n1 ≤ ms → M κ N1 T1 501 (LQP q t 44 e4 e5 e6 e7 e8 e9 e10 e11) [vI 1] v1 k1 n1 Q) : M κ N T 477 (LQP q t 44 e4 e5 e6 e7 e8 e9 e10 e11) [] v kc nc Q := by
  obtain ⟨hT, hN, r, P, s, hV, hHV, ht, hPk⟩ := h
  have hH : DR (v 2) (v 3) (v 4) (v 5) (v 6) (v 7) (v 8) (v 9) r := hV.1
  have hC : CNT (v 1) (v 9) r c := hV.2
  have hs := hHV.1
  have hs6 := hHV.2.1
  have hfr_v : fr v v := fun _ _ => rfl
  obtain ⟨hr0, hr1, hr2, hrP⟩ := hC.bds (by omega)
  have hBI : ∀ {b9 w9 : Nat}, b9 < 24 → w9 < 5 → -1 ≤ biF r b9 w9 ∧ biF r b9 w9 ≤ 24 := fun h1 h2 => hH.biB h1 h2
  have hPR : ∀ {f9 w9 : Nat}, f9 < 10 → ro r f9 0 = 1 → w9 < 7 → -1 ≤ prF r f9 w9 ∧ prF r f9 w9 ≤ 1000000 := fun h1 h2 h3 => hH.prB hrP h1 h2 h3
  have hCT : ∀ {w9 : Nat}, w9 < 12 → 0 ≤ ctX r s w9 ∧ ctX r s w9 ≤ 1000000 := fun h => hH.ctB ⟨by omega, by omega⟩ ⟨by omega, by omega⟩ hr2 hs6 h
  clear hr2
  have htb := ht.1
  refine M_aload_n (pc := 477) C dL_law_477 rfl (by decide) ?_
  refine M_iload_n (pc := 478) C dL_law_478 rfl ?_
  refine M_callS (pc := 479) C (c_L_places (v := v) (r := r) (c := c) (P := P) (s := s) (t := t) hT hV hHV (by omega) hN ht hPk) yw_L_places lk_L_109 rfl dL_law_479 rfl (Nat.le_of_ble_eq_true rfl) (by omega) ⟨by omega, by omega⟩ (fun r1 v1 p1 => ?_)
  obtain ⟨rfl, hf1⟩ := p1
  have hV2 : DV v1 1 r c := hV.same (fun k hk => hf1 _ (by omega)) (fun _ _ => rfl)
  have hHV2 : HVr v1 P s c := hHV.same (fun a h1 h2 => hf1 a (by omega))
  have hT2 : TT (newT (newT T N 1 24) (N + 1) 1 4) := (hT.nw hN).nw (by omega)
  refine M_if_eq (pc := 482) C (tgt := 500) (by decide) dL_law_482 (by decide) (fun h => absurd h (by decide)) (fun _ => ?_)
  refine M_aload_n (pc := 485) C dL_law_485 rfl (by decide) ?_
  refine M_bipush (pc := 486) C (by decide) dL_law_486 ?_
  refine A_cV (pc := 488) C (x := vI (ctX r s 11)) (a := 0) (c := 7) (c_X7_count (v := v1) (r := r) (c := c) (s := s) (w := 11) hT2 hV2 (by omega) hHV2.1) yw_X7_count lk_L_31 rfl (congrArg Prod.fst (tt_0 hT2)) hc_7 rfl dL_law_488 rfl (Nat.le_of_ble_eq_true rfl) (by omega) ⟨by omega, by omega⟩ ?_
  have hct_488 := hCT (w9 := 11) (by omega)
  have hck11 : ctX r s 11 = ((s : Nat) : Int) := rfl
  refine M_bipush (pc := 491) C (by decide) dL_law_491 ?_
  refine M_icmp_gt (pc := 493) C (tgt := 500) (by omega) (by omega) dL_law_493 (by decide) (fun h_493 => ?_) (fun h_493 => ?_)
  · exfalso
    omega
  · refine M_iconst (pc := 496) C dL_law_496 ?_
    refine M_goto (pc := 497) C (tgt := 501) dL_law_497 (by decide) ?_
    exact fin _ _ _ _ _ (by omega) (by omega)
theorem law_loop {κ : KX} {nm : String} {d mc ms q len : Nat} {xs : Nat → Int32} {Q : State → Prop} (C : CX κ (mLn nm) d mc ms) (hd : 40 ≤ d) (hX : AXk κ q len xs) (hl : len ≤ 260) (hmc : 1000 ≤ mc) (hms : 20000 ≤ ms)
    (fin : ∀ (N : Nat) (T : Ty) (v : Ct) (t : Int) (k n : Nat) (e4 e5 e6 e7 e8 e9 e10 e11 : Option MV), k ≤ mc → n ≤ ms → M κ N T 501 (LQP q t 44 e4 e5 e6 e7 e8 e9 e10 e11) [vI 1] v k n Q) : ∀ (rr j N : Nat) (T : Ty) (v : Ct) (t : Int) (kc nc : Nat) (e4 e5 e6 e7 e8 e9 e10 e11 : Option MV), j + rr = 44 → PI N T v t (j : Int) → kc ≤ 100 + 3 * j → nc ≤ 5000 + 40 * j → M κ N T 12 (LQP q t j e4 e5 e6 e7 e8 e9 e10 e11) [] v kc nc Q := by
  intro rr
  induction rr with
  | zero =>
    intro j N T v t kc nc e4 e5 e6 e7 e8 e9 e10 e11 hj h hk hn
    have hj2 : j = 44 := by omega
    subst hj2
    refine M_iload_n (pc := 12) C dL_law_12 rfl ?_
    refine M_bipush (pc := 13) C (by decide) dL_law_13 ?_
    refine M_icmp_ge (pc := 15) C (tgt := 477) (by decide) (by decide) dL_law_15 (by decide) (fun _ => ?_) (fun q => absurd q (by decide))
    exact L_fin (xs := xs) (len := len) (k := 0) C hd h (by decide) (by omega) (by omega) (fun N1 T1 v1 k1 n1 a b => fin N1 T1 v1 t k1 n1 _ _ _ _ _ _ _ _ a b)
  | succ rr ih =>
    intro j N T v t kc nc e4 e5 e6 e7 e8 e9 e10 e11 hj h hk hn
    refine M_iload_n (pc := 12) C dL_law_12 rfl ?_
    refine M_bipush (pc := 13) C (by decide) dL_law_13 ?_
    refine M_icmp_ge (pc := 15) C (tgt := 477) (by omega) (by decide) dL_law_15 (by decide) (fun q => by exfalso; omega) (fun _ => ?_)
    refine L_act C hd h (by omega) (by omega) (by omega) hX hl (by omega) (fun N1 T1 v1 t1 k1 n1 f4 f5 f6 f7 f8 f10 f11 h1 hk1 hn1 => ?_)
    refine L_tail (xs := xs) (len := len) (e9 := none) C hd h1 (by omega) (by omega) (by omega) (by omega) (fun N2 T2 v2 t2 k2 n2 g4 g5 g6 g7 g8 g9 g10 g11 h2 hk2 hn2 => ?_)
    refine M_iinc (pc := 471) C dL_law_471 rfl (Nat.le_of_ble_eq_true rfl) ?_
    refine M_goto (pc := 474) C (tgt := 12) dL_law_474 (by decide) ?_
    exact M.to (ih (j + 1) N2 T2 v2 t2 k2 n2 g4 g5 g6 g7 g8 g9 g10 g11 (by omega) h2 (by omega) (by omega)) rfl rfl rfl
