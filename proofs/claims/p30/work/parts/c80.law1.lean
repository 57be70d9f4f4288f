/-! the law's own methods -/
theorem CNT.bds {G P r : Nat → Int} {c : Int} (h : CNT G P r c) (hc : c < 1000000) : (0 ≤ r 0 ∧ r 0 < 1000000) ∧ (0 ≤ r 1 ∧ r 1 < 1000000) ∧ (r 2 = 0 ∨ r 2 = 1) ∧ ∀ g, g < 10 → 0 ≤ P g ∧ P g ≤ 1000000 := by
  obtain ⟨-, -, -, h4, h5, h6, h7⟩ := h
  exact ⟨⟨h5.1, by omega⟩, ⟨h6.1, by omega⟩, h4, fun g hg => by have := h7 g hg; omega⟩
theorem lc_L_7 : Cond.constant RL 7 22610029 ∈ GW := GW_t (i := 407) (by decide +kernel) rfl
theorem lc_L_8 : Cond.constant RL 8 2147483647 ∈ GW := GW_t (i := 411) (by decide +kernel) rfl
theorem c_L_low {N : Nat} {T : Ty} {x m : Int} {v : Ct} (hT : TT T) (hx : i32 x) (hm : 0 < m ∧ m < 2147483648) : Runs mL_low 0 0 0 [vI x, vI m] N T v (some (vI (x % 2 ^ 31 % m))) N T v := by
  refine Runs.of (by decide) (Nat.le_of_ble_eq_true rfl) fun κ C => ?_
  refine M_iload_n (pc := 0) C dL_low_0 rfl ?_
  refine M_ldc (pc := 1) C lc_L_8 (z := 2147483647) rfl dL_low_1 ?_
  refine M_imask (pc := 3) C 31 (by decide) (by decide) dL_low_3 ?_
  refine M_iload_n (pc := 4) C dL_low_4 rfl ?_
  refine M_irem (pc := 5) C (by omega) (by omega) dL_low_5 ?_
  exact M_iret (pc := 6) C rfl dL_low_6 rfl rfl
theorem c_L_has {N : Nat} {T : Ty} {t : Int} {f : Nat} {v : Ct} (hT : TT T) (ht : i32 t) (hf : f < 32) : Runs mL_has 0 0 0 [vI t, vI ((f : Nat) : Int)] N T v (some (vI (Bi (btB t f)))) N T v := by
  refine Runs.of (by decide) (Nat.le_of_ble_eq_true rfl) fun κ C => ?_
  refine M_iload_n (pc := 0) C dL_has_0 rfl ?_
  refine M_iload_n (pc := 1) C dL_has_1 rfl ?_
  refine M_ishr (pc := 2) C (by omega) (by omega) dL_has_2 ?_
  refine M_iconst (pc := 3) C dL_has_3 ?_
  refine M_imask (pc := 4) C 1 (by decide) (by decide) dL_has_4 ?_
  refine M_iconst (pc := 5) C dL_has_5 ?_
  refine T_icmp_ne (pc := 6) C (by omega) (by omega) dL_has_6 dL_has_9 dL_has_10 dL_has_13 ?_
  exact M_zret (pc := 14) C rfl (Bi_01 _) dL_has_14 rfl rfl
theorem c_L_ones {N : Nat} {T : Ty} {t : Int} {v : Ct} (hT : TT T) (ht : i32 t) : Runs mL_ones 0 0 0 [vI t] N T v (some (vI (sumN (fun f => t / 2 ^ f % 2) 10))) N T v := by
  refine Runs.of (by decide) (Nat.le_of_ble_eq_true rfl) fun κ C => ?_
  refine M_iconst (pc := 0) C dL_ones_0 ?_
  refine M_istore_n (pc := 1) C dL_ones_1 (by decide) ?_
  refine M.to (L2 := [some (vI t), some (vI 0), none]) ?_ rfl rfl rfl
  refine M_iconst (pc := 2) C dL_ones_2 ?_
  refine M_istore_n (pc := 3) C dL_ones_3 (by decide) ?_
  refine M.to (L2 := [some (vI t), some (vI 0), some (vI 0)]) ?_ rfl rfl rfl
  refine loop_le (P := fun i => M κ N T 4 [some (vI t), some (vI (sumN (fun f => t / 2 ^ f % 2) i)), some (vI ((i : Nat) : Int))] [] v 0 0 (QR κ (some (vI (sumN (fun f => t / 2 ^ f % 2) 10))) N T v 0 0)) 10 (fun i hi ih => ?_)
  refine M_iload_n (pc := 4) C dL_ones_4 rfl ?_
  refine M_bipush (pc := 5) C (by decide) dL_ones_5 ?_
  refine M_icmp_ge (pc := 7) C (tgt := 24) (by omega) (by omega) dL_ones_7 (by decide) (fun h_7 => ?_) (fun h_7 => ?_)
  · refine M_iload_n (pc := 24) C dL_ones_24 rfl ?_
    exact M_iret (pc := 25) C rfl dL_ones_25 (by rw [show i = 10 by omega]) rfl
  · refine M_iload_n (pc := 10) C dL_ones_10 rfl ?_
    refine M_iload_n (pc := 11) C dL_ones_11 rfl ?_
    refine M_iload_n (pc := 12) C dL_ones_12 rfl ?_
    refine M_ishr (pc := 13) C (by omega) (by omega) dL_ones_13 ?_
    refine M_iconst (pc := 14) C dL_ones_14 ?_
    refine M_imask (pc := 15) C 1 (by decide) (by decide) dL_ones_15 ?_
    refine M_iadd (pc := 16) C dL_ones_16 ?_
    refine M_istore_n (pc := 17) C dL_ones_17 (by decide) ?_
    refine M.to (L2 := [some (vI t), some (vI ((sumN (fun f => t / 2 ^ f % 2) i) + ((t / 2 ^ (((i : Nat) : Int)).toNat) % 2 ^ 1))), some (vI ((i : Nat) : Int))]) ?_ rfl rfl rfl
    refine M_iinc (pc := 18) C dL_ones_18 rfl (by decide) ?_
    refine M.to (L2 := [some (vI t), some (vI ((sumN (fun f => t / 2 ^ f % 2) i) + ((t / 2 ^ (((i : Nat) : Int)).toNat) % 2 ^ 1))), some (vI (((i : Nat) : Int) + 1))]) ?_ rfl rfl rfl
    refine M_goto (pc := 21) C (tgt := 4) dL_ones_21 (by decide) ?_
    exact M.to (ih (by omega)) (by rw [sumN_s (g := fun f => t / 2 ^ f % 2) rfl]; rfl) rfl rfl
set_option maxHeartbeats 8000000 in
theorem c_L_hasGap {N : Nat} {T : Ty} {r P : Nat → Int} {c : Int} {s : Nat} {x : Int} {v : Ct} (hT : TT T) (hV : DV v 1 r c) (hHV : HVr v P s c) (hc : c < 900000) (hx : i32 x) : Runs mL_hasGap 5 0 0 [vR 0, vI x] N T v (some (vI (Bi (orN (fun b => decide (x ≤ biF r b 3)) 24)))) N T v := by
  have hH : DR (v 2) (v 3) (v 4) (v 5) (v 6) (v 7) (v 8) (v 9) r := hV.1
  have hC : CNT (v 1) (v 9) r c := hV.2
  have hs := hHV.1
  have hs6 := hHV.2.1
  have hfr_v : fr v v := fun _ _ => rfl
  obtain ⟨hr0, hr1, hr2, hrP⟩ := hC.bds (by omega)
  have hBI : ∀ {b9 w9 : Nat}, b9 < 24 → w9 < 5 → -1 ≤ biF r b9 w9 ∧ biF r b9 w9 ≤ 24 := fun h1 h2 => hH.biB h1 h2
  have hPR : ∀ {f9 w9 : Nat}, f9 < 10 → ro r f9 0 = 1 → w9 < 7 → -1 ≤ prF r f9 w9 ∧ prF r f9 w9 ≤ 1000000 := fun h1 h2 h3 => hH.prB hrP h1 h2 h3
  have hCT : ∀ {w9 : Nat}, w9 < 12 → 0 ≤ ctX r s w9 ∧ ctX r s w9 ≤ 1000000 := fun h => hH.ctB ⟨by omega, by omega⟩ ⟨by omega, by omega⟩ hr2 hs6 h
  clear hr2
  refine Runs.of (by decide) (Nat.le_of_ble_eq_true rfl) fun κ C => ?_
  refine M_iconst (pc := 0) C dL_hasGap_0 ?_
  refine M_istore_n (pc := 1) C dL_hasGap_1 (by decide) ?_
  refine M.to (L2 := [some (vR 0), some (vI x), some (vI 0), none]) ?_ rfl rfl rfl
  refine M_iconst (pc := 2) C dL_hasGap_2 ?_
  refine M_istore_n (pc := 3) C dL_hasGap_3 (by decide) ?_
  refine M.to (L2 := [some (vR 0), some (vI x), some (vI 0), some (vI 0)]) ?_ rfl rfl rfl
  refine loop_le (P := fun i => M κ N T 4 [some (vR 0), some (vI x), some (vI (Bi (orN (fun b => decide (x ≤ biF r b 3)) i))), some (vI ((i : Nat) : Int))] [] v 0 0 (QR κ (some (vI (Bi (orN (fun b => decide (x ≤ biF r b 3)) 24)))) N T v 0 0)) 24 (fun i hi ih => ?_)
  refine M_iload_n (pc := 4) C dL_hasGap_4 rfl ?_
  refine M_bipush (pc := 5) C (by decide) dL_hasGap_5 ?_
  refine M_icmp_ge (pc := 7) C (tgt := 36) (by omega) (by omega) dL_hasGap_7 (by decide) (fun h_7 => ?_) (fun h_7 => ?_)
  · refine M_iload_n (pc := 36) C dL_hasGap_36 rfl ?_
    exact M_zret (pc := 37) C rfl (Bi_01 _) dL_hasGap_37 (by rw [show i = 24 by omega]) rfl
  · have hj_29 : M κ N T 29 [some (vR 0), some (vI x), some (vI (Bi (orN (fun b => decide (x ≤ biF r b 3)) i))), some (vI ((i : Nat) : Int))] [vI (Bi (orN (fun b => decide (x ≤ biF r b 3)) (i + 1)))] v 0 0 (QR κ (some (vI (Bi (orN (fun b => decide (x ≤ biF r b 3)) 24)))) N T v 0 0) := by
      refine M_istore_n (pc := 29) C dL_hasGap_29 (by decide) ?_
      refine M.to (L2 := [some (vR 0), some (vI x), some (vI (Bi (orN (fun b => decide (x ≤ biF r b 3)) (i + 1)))), some (vI ((i : Nat) : Int))]) ?_ rfl rfl rfl
      refine M_iinc (pc := 30) C dL_hasGap_30 rfl (by decide) ?_
      refine M.to (L2 := [some (vR 0), some (vI x), some (vI (Bi (orN (fun b => decide (x ≤ biF r b 3)) (i + 1)))), some (vI (((i : Nat) : Int) + 1))]) ?_ rfl rfl rfl
      refine M_goto (pc := 33) C (tgt := 4) dL_hasGap_33 (by decide) ?_
      exact M.to (ih (by omega)) rfl rfl rfl
    refine M_iload_n (pc := 10) C dL_hasGap_10 rfl ?_
    refine M_if_ne (pc := 11) C (tgt := 24) (Bi_i32 _) dL_hasGap_11 (by decide) (fun h_11 => ?_) (fun h_11 => ?_)
    · have b_11 := Bi_ne0 h_11
      refine M_iconst (pc := 24) C dL_hasGap_24 ?_
      refine M_goto (pc := 25) C (tgt := 29) dL_hasGap_25 (by decide) ?_
      exact M.to hj_29 rfl (by first | (rw [orN_t2 b_11]; rfl) | (rw [orN_f b_11 (decide_eq_true (by omega))]; rfl) | (rw [orN_f b_11 (decide_eq_false (by omega))]; rfl)) rfl
    · have b_11 := Bi_eq0 h_11
      refine M_aload_n (pc := 14) C dL_hasGap_14 rfl (by decide) ?_
      refine M_iload_n (pc := 15) C dL_hasGap_15 rfl ?_
      refine M_iconst (pc := 16) C dL_hasGap_16 ?_
      refine A_cV (pc := 17) C (x := vI (biF r i 3)) (a := 0) (c := 7) (c_X7_blockOf (v := v) (r := r) (c := c) (b := i) (w := 3) hT hV (by omega) (by omega)) yw_X7_blockOf lk_L_24 rfl (congrArg Prod.fst (tt_0 hT)) hc_7 rfl dL_hasGap_17 rfl (Nat.le_of_ble_eq_true rfl) (by decide) ⟨Nat.le_refl _, Nat.le_refl _⟩ ?_
      have hbi_17 := hBI (b9 := i) (w9 := 3) (by omega) (by omega)
      refine M_iload_n (pc := 20) C dL_hasGap_20 rfl ?_
      refine M_icmp_lt (pc := 21) C (tgt := 28) (by omega) (by omega) dL_hasGap_21 (by decide) (fun h_21 => ?_) (fun h_21 => ?_)
      · refine M_iconst (pc := 28) C dL_hasGap_28 ?_
        exact M.to hj_29 rfl (by first | (rw [orN_t2 b_11]; rfl) | (rw [orN_f b_11 (decide_eq_true (by omega))]; rfl) | (rw [orN_f b_11 (decide_eq_false (by omega))]; rfl)) rfl
      · refine M_iconst (pc := 24) C dL_hasGap_24 ?_
        refine M_goto (pc := 25) C (tgt := 29) dL_hasGap_25 (by decide) ?_
        exact M.to hj_29 rfl (by first | (rw [orN_t2 b_11]; rfl) | (rw [orN_f b_11 (decide_eq_true (by omega))]; rfl) | (rw [orN_f b_11 (decide_eq_false (by omega))]; rfl)) rfl
set_option maxHeartbeats 8000000 in
theorem c_L_file {N : Nat} {T : Ty} {r P : Nat → Int} {c : Int} {s : Nat} {f : Nat} {l : Int} {v : Ct} (hT : TT T) (hV : DV v 1 r c) (hHV : HVr v P s c) (hc : c < 900000) (hk : PLk r) (hf : f < 10) (hfi : ro r f 0 = 1) (hl : l = 0 ∨ l = 1) (hlo : l = 1 → prF r f 5 = 1) : Runs mL_file 3 0 0 [vR 0, vI ((f : Nat) : Int), vI l] N T v (some (vI 1)) N T v := by
  have hH : DR (v 2) (v 3) (v 4) (v 5) (v 6) (v 7) (v 8) (v 9) r := hV.1
  have hC : CNT (v 1) (v 9) r c := hV.2
  have hs := hHV.1
  have hs6 := hHV.2.1
  have hfr_v : fr v v := fun _ _ => rfl
  obtain ⟨hr0, hr1, hr2, hrP⟩ := hC.bds (by omega)
  have hBI : ∀ {b9 w9 : Nat}, b9 < 24 → w9 < 5 → -1 ≤ biF r b9 w9 ∧ biF r b9 w9 ≤ 24 := fun h1 h2 => hH.biB h1 h2
  have hPR : ∀ {f9 w9 : Nat}, f9 < 10 → ro r f9 0 = 1 → w9 < 7 → -1 ≤ prF r f9 w9 ∧ prF r f9 w9 ≤ 1000000 := fun h1 h2 h3 => hH.prB hrP h1 h2 h3
  have hCT : ∀ {w9 : Nat}, w9 < 12 → 0 ≤ ctX r s w9 ∧ ctX r s w9 ≤ 1000000 := fun h => hH.ctB ⟨by omega, by omega⟩ ⟨by omega, by omega⟩ hr2 hs6 h
  clear hr2
  obtain ⟨p0, p1, p2, p3, p4, p5, p6⟩ := hH.pf hf hfi
  have hfile := hH.fileQ hk hf hfi
  refine Runs.of (by decide) (Nat.le_of_ble_eq_true rfl) fun κ C => ?_
  refine M_aload_n (pc := 0) C dL_file_0 rfl (by decide) ?_
  refine M_iload_n (pc := 1) C dL_file_1 rfl ?_
  refine M_iconst (pc := 2) C dL_file_2 ?_
  refine A_cV (pc := 3) C (x := vI (prF r f 0)) (a := 0) (c := 7) (c_X7_fileOf (v := v) (r := r) (c := c) (f := f) (w := 0) hT hV (by omega) hfi (by omega)) yw_X7_fileOf lk_L_15 rfl (congrArg Prod.fst (tt_0 hT)) hc_7 rfl dL_file_3 rfl (Nat.le_of_ble_eq_true rfl) (by decide) ⟨Nat.le_refl _, Nat.le_refl _⟩ ?_
  have hpr_3 := hPR (f9 := f) (w9 := 0) (by omega) hfi (by omega)
  refine M_istore_n (pc := 6) C dL_file_6 (by decide) ?_
  refine M.to (L2 := [some (vR 0), some (vI ((f : Nat) : Int)), some (vI l), some (vI (prF r f 0)), none, none]) ?_ rfl rfl rfl
  refine M_iload_n (pc := 7) C dL_file_7 rfl ?_
  refine M_bipush (pc := 8) C (by decide) dL_file_8 ?_
  refine M_irem (pc := 10) C (by omega) (by decide) dL_file_10 ?_
  refine M_istore (pc := 11) C dL_file_11 (by decide) ?_
  refine M.to (L2 := [some (vR 0), some (vI ((f : Nat) : Int)), some (vI l), some (vI (prF r f 0)), some (vI ((prF r f 0) % 16)), none]) ?_ rfl rfl rfl
  refine M_aload_n (pc := 13) C dL_file_13 rfl (by decide) ?_
  refine M_iload_n (pc := 14) C dL_file_14 rfl ?_
  refine M_iconst (pc := 15) C dL_file_15 ?_
  refine A_cV (pc := 16) C (x := vI (prF r f 1)) (a := 0) (c := 7) (c_X7_fileOf (v := v) (r := r) (c := c) (f := f) (w := 1) hT hV (by omega) hfi (by omega)) yw_X7_fileOf lk_L_15 rfl (congrArg Prod.fst (tt_0 hT)) hc_7 rfl dL_file_16 rfl (Nat.le_of_ble_eq_true rfl) (by decide) ⟨Nat.le_refl _, Nat.le_refl _⟩ ?_
  have hpr_16 := hPR (f9 := f) (w9 := 1) (by omega) hfi (by omega)
  refine M_iload_n (pc := 19) C dL_file_19 rfl ?_
  refine M_bipush (pc := 20) C (by decide) dL_file_20 ?_
  refine M_idiv (pc := 22) C (by omega) (by decide) dL_file_22 ?_
  refine M_icmp_ne (pc := 23) C (tgt := 55) (by omega) (by omega) dL_file_23 (by decide) (fun h_23 => ?_) (fun h_23 => ?_)
  · exfalso
    omega
  · refine M_aload_n (pc := 26) C dL_file_26 rfl (by decide) ?_
    refine M_iload_n (pc := 27) C dL_file_27 rfl ?_
    refine M_iconst (pc := 28) C dL_file_28 ?_
    refine A_cV (pc := 29) C (x := vI (prF r f 2)) (a := 0) (c := 7) (c_X7_fileOf (v := v) (r := r) (c := c) (f := f) (w := 2) hT hV (by omega) hfi (by omega)) yw_X7_fileOf lk_L_15 rfl (congrArg Prod.fst (tt_0 hT)) hc_7 rfl dL_file_29 rfl (Nat.le_of_ble_eq_true rfl) (by decide) ⟨Nat.le_refl _, Nat.le_refl _⟩ ?_
    have hpr_29 := hPR (f9 := f) (w9 := 2) (by omega) hfi (by omega)
    refine M_iload (pc := 32) C dL_file_32 rfl ?_
    refine M_icmp_ne (pc := 34) C (tgt := 55) (by omega) (by omega) dL_file_34 (by decide) (fun h_34 => ?_) (fun h_34 => ?_)
    · exfalso
      omega
    · refine M_iload_n (pc := 37) C dL_file_37 rfl ?_
      refine M_if_eq (pc := 38) C (tgt := 51) (by omega) dL_file_38 (by decide) (fun h_38 => ?_) (fun h_38 => ?_)
      · refine M_iconst (pc := 51) C dL_file_51 ?_
        refine M_goto (pc := 52) C (tgt := 56) dL_file_52 (by decide) ?_
        refine M_istore (pc := 56) C dL_file_56 (by decide) ?_
        refine M.to (L2 := [some (vR 0), some (vI ((f : Nat) : Int)), some (vI l), some (vI (prF r f 0)), some (vI ((prF r f 0) % 16)), some (vI 1)]) ?_ rfl rfl rfl
        refine M_iload (pc := 58) C dL_file_58 rfl ?_
        refine M_if_eq (pc := 60) C (tgt := 128) (by decide) dL_file_60 (by decide) (fun h => absurd h (by decide)) (fun _ => ?_)
        refine M_iload (pc := 63) C dL_file_63 rfl ?_
        refine M_if_ne (pc := 65) C (tgt := 91) (by omega) dL_file_65 (by decide) (fun h_65 => ?_) (fun h_65 => ?_)
        · refine M_aload_n (pc := 91) C dL_file_91 rfl (by decide) ?_
          refine M_iload_n (pc := 92) C dL_file_92 rfl ?_
          refine M_iconst (pc := 93) C dL_file_93 ?_
          refine A_cV (pc := 94) C (x := vI (prF r f 3)) (a := 0) (c := 7) (c_X7_fileOf (v := v) (r := r) (c := c) (f := f) (w := 3) hT hV (by omega) hfi (by omega)) yw_X7_fileOf lk_L_15 rfl (congrArg Prod.fst (tt_0 hT)) hc_7 rfl dL_file_94 rfl (Nat.le_of_ble_eq_true rfl) (by decide) ⟨Nat.le_refl _, Nat.le_refl _⟩ ?_
          have hpr_94 := hPR (f9 := f) (w9 := 3) (by omega) hfi (by omega)
          refine M_if_lt (pc := 97) C (tgt := 128) (by omega) dL_file_97 (by decide) (fun h_97 => ?_) (fun h_97 => ?_)
          · exfalso
            omega
          · refine M_aload_n (pc := 100) C dL_file_100 rfl (by decide) ?_
            refine M_iload_n (pc := 101) C dL_file_101 rfl ?_
            refine M_iconst (pc := 102) C dL_file_102 ?_
            refine A_cV (pc := 103) C (x := vI (prF r f 4)) (a := 0) (c := 7) (c_X7_fileOf (v := v) (r := r) (c := c) (f := f) (w := 4) hT hV (by omega) hfi (by omega)) yw_X7_fileOf lk_L_15 rfl (congrArg Prod.fst (tt_0 hT)) hc_7 rfl dL_file_103 rfl (Nat.le_of_ble_eq_true rfl) (by decide) ⟨Nat.le_refl _, Nat.le_refl _⟩ ?_
            have hpr_103 := hPR (f9 := f) (w9 := 4) (by omega) hfi (by omega)
            refine M_iload (pc := 106) C dL_file_106 rfl ?_
            refine M_iadd (pc := 108) C dL_file_108 ?_
            refine M_bipush (pc := 109) C (by decide) dL_file_109 ?_
            refine M_icmp_gt (pc := 111) C (tgt := 128) (by omega) (by omega) dL_file_111 (by decide) (fun h_111 => ?_) (fun h_111 => ?_)
            · exfalso
              omega
            · refine M_aload_n (pc := 114) C dL_file_114 rfl (by decide) ?_
              refine M_iload_n (pc := 115) C dL_file_115 rfl ?_
              refine M_bipush (pc := 116) C (by decide) dL_file_116 ?_
              refine A_cV (pc := 118) C (x := vI (prF r f 6)) (a := 0) (c := 7) (c_X7_fileOf (v := v) (r := r) (c := c) (f := f) (w := 6) hT hV (by omega) hfi (by omega)) yw_X7_fileOf lk_L_15 rfl (congrArg Prod.fst (tt_0 hT)) hc_7 rfl dL_file_118 rfl (Nat.le_of_ble_eq_true rfl) (by decide) ⟨Nat.le_refl _, Nat.le_refl _⟩ ?_
              have hpr_118 := hPR (f9 := f) (w9 := 6) (by omega) hfi (by omega)
              refine M_if_le (pc := 121) C (tgt := 128) (by omega) dL_file_121 (by decide) (fun h_121 => ?_) (fun h_121 => ?_)
              · exfalso
                omega
              · refine M_iconst (pc := 124) C dL_file_124 ?_
                refine M_goto (pc := 125) C (tgt := 129) dL_file_125 (by decide) ?_
                exact M_zret (pc := 129) C rfl (Or.inr rfl) dL_file_129 rfl rfl
        · refine M_aload_n (pc := 68) C dL_file_68 rfl (by decide) ?_
          refine M_iload_n (pc := 69) C dL_file_69 rfl ?_
          refine M_iconst (pc := 70) C dL_file_70 ?_
          refine A_cV (pc := 71) C (x := vI (prF r f 3)) (a := 0) (c := 7) (c_X7_fileOf (v := v) (r := r) (c := c) (f := f) (w := 3) hT hV (by omega) hfi (by omega)) yw_X7_fileOf lk_L_15 rfl (congrArg Prod.fst (tt_0 hT)) hc_7 rfl dL_file_71 rfl (Nat.le_of_ble_eq_true rfl) (by decide) ⟨Nat.le_refl _, Nat.le_refl _⟩ ?_
          have hpr_71 := hPR (f9 := f) (w9 := 3) (by omega) hfi (by omega)
          refine M_iconst (pc := 74) C dL_file_74 ?_
          refine M_icmp_ne (pc := 75) C (tgt := 128) (by omega) (by omega) dL_file_75 (by decide) (fun h_75 => ?_) (fun h_75 => ?_)
          · exfalso
            omega
          · refine M_aload_n (pc := 78) C dL_file_78 rfl (by decide) ?_
            refine M_iload_n (pc := 79) C dL_file_79 rfl ?_
            refine M_iconst (pc := 80) C dL_file_80 ?_
            refine A_cV (pc := 81) C (x := vI (prF r f 4)) (a := 0) (c := 7) (c_X7_fileOf (v := v) (r := r) (c := c) (f := f) (w := 4) hT hV (by omega) hfi (by omega)) yw_X7_fileOf lk_L_15 rfl (congrArg Prod.fst (tt_0 hT)) hc_7 rfl dL_file_81 rfl (Nat.le_of_ble_eq_true rfl) (by decide) ⟨Nat.le_refl _, Nat.le_refl _⟩ ?_
            have hpr_81 := hPR (f9 := f) (w9 := 4) (by omega) hfi (by omega)
            refine M_iconst (pc := 84) C dL_file_84 ?_
            refine M_icmp_ne (pc := 85) C (tgt := 128) (by omega) (by omega) dL_file_85 (by decide) (fun h_85 => ?_) (fun h_85 => ?_)
            · exfalso
              omega
            · refine M_goto (pc := 88) C (tgt := 124) dL_file_88 (by decide) ?_
              refine M_iconst (pc := 124) C dL_file_124 ?_
              refine M_goto (pc := 125) C (tgt := 129) dL_file_125 (by decide) ?_
              exact M_zret (pc := 129) C rfl (Or.inr rfl) dL_file_129 rfl rfl
      · refine M_aload_n (pc := 41) C dL_file_41 rfl (by decide) ?_
        refine M_iload_n (pc := 42) C dL_file_42 rfl ?_
        refine M_iconst (pc := 43) C dL_file_43 ?_
        refine A_cV (pc := 44) C (x := vI (prF r f 5)) (a := 0) (c := 7) (c_X7_fileOf (v := v) (r := r) (c := c) (f := f) (w := 5) hT hV (by omega) hfi (by omega)) yw_X7_fileOf lk_L_15 rfl (congrArg Prod.fst (tt_0 hT)) hc_7 rfl dL_file_44 rfl (Nat.le_of_ble_eq_true rfl) (by decide) ⟨Nat.le_refl _, Nat.le_refl _⟩ ?_
        have hpr_44 := hPR (f9 := f) (w9 := 5) (by omega) hfi (by omega)
        refine M_iconst (pc := 47) C dL_file_47 ?_
        refine M_icmp_ne (pc := 48) C (tgt := 55) (by omega) (by omega) dL_file_48 (by decide) (fun h_48 => ?_) (fun h_48 => ?_)
        · exfalso
          omega
        · refine M_iconst (pc := 51) C dL_file_51 ?_
          refine M_goto (pc := 52) C (tgt := 56) dL_file_52 (by decide) ?_
          refine M_istore (pc := 56) C dL_file_56 (by decide) ?_
          refine M.to (L2 := [some (vR 0), some (vI ((f : Nat) : Int)), some (vI l), some (vI (prF r f 0)), some (vI ((prF r f 0) % 16)), some (vI 1)]) ?_ rfl rfl rfl
          refine M_iload (pc := 58) C dL_file_58 rfl ?_
          refine M_if_eq (pc := 60) C (tgt := 128) (by decide) dL_file_60 (by decide) (fun h => absurd h (by decide)) (fun _ => ?_)
          refine M_iload (pc := 63) C dL_file_63 rfl ?_
          refine M_if_ne (pc := 65) C (tgt := 91) (by omega) dL_file_65 (by decide) (fun h_65 => ?_) (fun h_65 => ?_)
          · refine M_aload_n (pc := 91) C dL_file_91 rfl (by decide) ?_
            refine M_iload_n (pc := 92) C dL_file_92 rfl ?_
            refine M_iconst (pc := 93) C dL_file_93 ?_
            refine A_cV (pc := 94) C (x := vI (prF r f 3)) (a := 0) (c := 7) (c_X7_fileOf (v := v) (r := r) (c := c) (f := f) (w := 3) hT hV (by omega) hfi (by omega)) yw_X7_fileOf lk_L_15 rfl (congrArg Prod.fst (tt_0 hT)) hc_7 rfl dL_file_94 rfl (Nat.le_of_ble_eq_true rfl) (by decide) ⟨Nat.le_refl _, Nat.le_refl _⟩ ?_
            have hpr_94 := hPR (f9 := f) (w9 := 3) (by omega) hfi (by omega)
            refine M_if_lt (pc := 97) C (tgt := 128) (by omega) dL_file_97 (by decide) (fun h_97 => ?_) (fun h_97 => ?_)
            · exfalso
              omega
            · refine M_aload_n (pc := 100) C dL_file_100 rfl (by decide) ?_
              refine M_iload_n (pc := 101) C dL_file_101 rfl ?_
              refine M_iconst (pc := 102) C dL_file_102 ?_
              refine A_cV (pc := 103) C (x := vI (prF r f 4)) (a := 0) (c := 7) (c_X7_fileOf (v := v) (r := r) (c := c) (f := f) (w := 4) hT hV (by omega) hfi (by omega)) yw_X7_fileOf lk_L_15 rfl (congrArg Prod.fst (tt_0 hT)) hc_7 rfl dL_file_103 rfl (Nat.le_of_ble_eq_true rfl) (by decide) ⟨Nat.le_refl _, Nat.le_refl _⟩ ?_
              have hpr_103 := hPR (f9 := f) (w9 := 4) (by omega) hfi (by omega)
              refine M_iload (pc := 106) C dL_file_106 rfl ?_
              refine M_iadd (pc := 108) C dL_file_108 ?_
              refine M_bipush (pc := 109) C (by decide) dL_file_109 ?_
              refine M_icmp_gt (pc := 111) C (tgt := 128) (by omega) (by omega) dL_file_111 (by decide) (fun h_111 => ?_) (fun h_111 => ?_)
              · exfalso
                omega
              · refine M_aload_n (pc := 114) C dL_file_114 rfl (by decide) ?_
                refine M_iload_n (pc := 115) C dL_file_115 rfl ?_
                refine M_bipush (pc := 116) C (by decide) dL_file_116 ?_
                refine A_cV (pc := 118) C (x := vI (prF r f 6)) (a := 0) (c := 7) (c_X7_fileOf (v := v) (r := r) (c := c) (f := f) (w := 6) hT hV (by omega) hfi (by omega)) yw_X7_fileOf lk_L_15 rfl (congrArg Prod.fst (tt_0 hT)) hc_7 rfl dL_file_118 rfl (Nat.le_of_ble_eq_true rfl) (by decide) ⟨Nat.le_refl _, Nat.le_refl _⟩ ?_
                have hpr_118 := hPR (f9 := f) (w9 := 6) (by omega) hfi (by omega)
                refine M_if_le (pc := 121) C (tgt := 128) (by omega) dL_file_121 (by decide) (fun h_121 => ?_) (fun h_121 => ?_)
                · exfalso
                  omega
                · refine M_iconst (pc := 124) C dL_file_124 ?_
                  refine M_goto (pc := 125) C (tgt := 129) dL_file_125 (by decide) ?_
                  exact M_zret (pc := 129) C rfl (Or.inr rfl) dL_file_129 rfl rfl
          · refine M_aload_n (pc := 68) C dL_file_68 rfl (by decide) ?_
            refine M_iload_n (pc := 69) C dL_file_69 rfl ?_
            refine M_iconst (pc := 70) C dL_file_70 ?_
            refine A_cV (pc := 71) C (x := vI (prF r f 3)) (a := 0) (c := 7) (c_X7_fileOf (v := v) (r := r) (c := c) (f := f) (w := 3) hT hV (by omega) hfi (by omega)) yw_X7_fileOf lk_L_15 rfl (congrArg Prod.fst (tt_0 hT)) hc_7 rfl dL_file_71 rfl (Nat.le_of_ble_eq_true rfl) (by decide) ⟨Nat.le_refl _, Nat.le_refl _⟩ ?_
            have hpr_71 := hPR (f9 := f) (w9 := 3) (by omega) hfi (by omega)
            refine M_iconst (pc := 74) C dL_file_74 ?_
            refine M_icmp_ne (pc := 75) C (tgt := 128) (by omega) (by omega) dL_file_75 (by decide) (fun h_75 => ?_) (fun h_75 => ?_)
            · exfalso
              omega
            · refine M_aload_n (pc := 78) C dL_file_78 rfl (by decide) ?_
              refine M_iload_n (pc := 79) C dL_file_79 rfl ?_
              refine M_iconst (pc := 80) C dL_file_80 ?_
              refine A_cV (pc := 81) C (x := vI (prF r f 4)) (a := 0) (c := 7) (c_X7_fileOf (v := v) (r := r) (c := c) (f := f) (w := 4) hT hV (by omega) hfi (by omega)) yw_X7_fileOf lk_L_15 rfl (congrArg Prod.fst (tt_0 hT)) hc_7 rfl dL_file_81 rfl (Nat.le_of_ble_eq_true rfl) (by decide) ⟨Nat.le_refl _, Nat.le_refl _⟩ ?_
              have hpr_81 := hPR (f9 := f) (w9 := 4) (by omega) hfi (by omega)
              refine M_iconst (pc := 84) C dL_file_84 ?_
              refine M_icmp_ne (pc := 85) C (tgt := 128) (by omega) (by omega) dL_file_85 (by decide) (fun h_85 => ?_) (fun h_85 => ?_)
              · exfalso
                omega
              · refine M_goto (pc := 88) C (tgt := 124) dL_file_88 (by decide) ?_
                refine M_iconst (pc := 124) C dL_file_124 ?_
                refine M_goto (pc := 125) C (tgt := 129) dL_file_125 (by decide) ?_
                exact M_zret (pc := 129) C rfl (Or.inr rfl) dL_file_129 rfl rfl
