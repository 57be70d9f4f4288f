theorem c_X8_placeTail {N : Nat} {T : Ty} {R : Nat → Int} {f c : Nat} {v : Ct} (hT : TT T) (hI : RI R) (hf : f < 10) (hc : c < 16) : RunsP mX8_placeTail 7 0 0 [vR 84, vI ((f : Nat) : Int), vI ((c : Nat) : Int)] N T (sa v 85 R) N T (fun r1 v1 => ∃ R1, v1 = sa v 85 R1 ∧ r1 = some (vI (Bi (ptO R f ((c : Nat) : Int)).isSome)) ∧ (∀ R2, ptO R f ((c : Nat) : Int) = some R2 → R1 = R2) ∧ ∀ j, 207 ≤ j → R1 j = R j) := by
  refine RunsP.of (by decide) (Nat.le_of_ble_eq_true rfl) fun κ C => ?_
  refine M_iload_n (pc := 0) C dX8_placeTail_0 rfl ?_
  refine M_if_ne (pc := 1) C (tgt := 6) (by omega) dX8_placeTail_1 (by decide) (fun h_1 => ?_) (fun h_1 => ?_)
  · refine M_aload_n (pc := 6) C dX8_placeTail_6 rfl (by decide) ?_
    refine M_iload_n (pc := 7) C dX8_placeTail_7 rfl ?_
    refine A_cV (pc := 8) C (x := vI (plcF R ((c : Nat) : Int))) (a := 84) (c := 8) (c_X8_placeFor hT hI (x := ((c : Nat) : Int)) (by omega)) yw_X8_placeFor lk_X8_103 rfl (congrArg Prod.fst (tt_84 hT)) hc_8 rfl dX8_placeTail_8 rfl (Nat.le_of_ble_eq_true rfl) (by decide) ⟨Nat.le_refl _, Nat.le_refl _⟩ ?_
    have hp_8 := plcF_bd R ((c : Nat) : Int)
    refine M_istore_n (pc := 11) C dX8_placeTail_11 (by decide) ?_
    refine M_iload_n (pc := 12) C dX8_placeTail_12 rfl ?_
    refine M_iconst (pc := 13) C dX8_placeTail_13 ?_
    refine M_icmp_ne (pc := 14) C (tgt := 19) (by omega) (by omega) dX8_placeTail_14 (by decide) (fun h_14 => ?_) (fun h_14 => ?_)
    · refine M_aload_n (pc := 19) C dX8_placeTail_19 rfl (by decide) ?_
      refine A_getR (pc := 20) C fl_X8_7 rfl (a := 84) (j := 85) rfl (tt_84 hT) rfl dX8_placeTail_20 ?_
      refine M_iconst (pc := 23) C dX8_placeTail_23 ?_
      refine M_iload_n (pc := 24) C dX8_placeTail_24 rfl ?_
      refine M_bipush (pc := 25) C (by decide) dX8_placeTail_25 ?_
      refine M_idiv (pc := 27) C (by omega) (by decide) dX8_placeTail_27 ?_
      refine M_iadd (pc := 28) C dX8_placeTail_28 ?_
      refine M_iconst (pc := 29) C dX8_placeTail_29 ?_
      refine A_iast (pc := 30) C (a := 85) (q := (3 + (plcF R ((c : Nat) : Int)).toNat / 16)) rfl (tt_85 hT) (by decide) (by omega) (by omega) (by omega) dX8_placeTail_30 ?_
      refine M.to (pc := 31) (v2 := sa v 85 (rs R (3 + (plcF R ((c : Nat) : Int)).toNat / 16) 2)) ?_ rfl rfl (by rw [sa_up0])
      refine M_aload_n (pc := 31) C dX8_placeTail_31 rfl (by decide) ?_
      refine M_iload_n (pc := 32) C dX8_placeTail_32 rfl ?_
      refine M_iconst (pc := 33) C dX8_placeTail_33 ?_
      refine M_iload_n (pc := 34) C dX8_placeTail_34 rfl ?_
      refine M_bipush (pc := 35) C (by decide) dX8_placeTail_35 ?_
      refine M_idiv (pc := 37) C (by omega) (by decide) dX8_placeTail_37 ?_
      refine A_cVv (pc := 38) C (a := 84) (c := 8) (c_X8_lay (f := f) (w := 3) hT (by omega) (by omega)) yw_X8_lay lk_X8_96 rfl (congrArg Prod.fst (tt_84 hT)) hc_8 rfl dX8_placeTail_38 rfl (Nat.le_of_ble_eq_true rfl) (by decide) ⟨Nat.le_refl _, Nat.le_refl _⟩ ?_
      refine M.to (v2 := sa v 85 (rs (rs R (3 + (plcF R ((c : Nat) : Int)).toNat / 16) 2) (27 + 18 * f + 3) ((plcF R ((c : Nat) : Int)) / 16))) ?_ rfl rfl (by rw [sa_up0])
      refine M_aload_n (pc := 41) C dX8_placeTail_41 rfl (by decide) ?_
      refine M_iload_n (pc := 42) C dX8_placeTail_42 rfl ?_
      refine M_iconst (pc := 43) C dX8_placeTail_43 ?_
      refine M_iload_n (pc := 44) C dX8_placeTail_44 rfl ?_
      refine M_bipush (pc := 45) C (by decide) dX8_placeTail_45 ?_
      refine M_irem (pc := 47) C (by omega) (by decide) dX8_placeTail_47 ?_
      refine A_cVv (pc := 48) C (a := 84) (c := 8) (c_X8_lay (f := f) (w := 4) hT (by omega) (by omega)) yw_X8_lay lk_X8_96 rfl (congrArg Prod.fst (tt_84 hT)) hc_8 rfl dX8_placeTail_48 rfl (Nat.le_of_ble_eq_true rfl) (by decide) ⟨Nat.le_refl _, Nat.le_refl _⟩ ?_
      refine M.to (v2 := sa v 85 (rs (rs (rs R (3 + (plcF R ((c : Nat) : Int)).toNat / 16) 2) (27 + 18 * f + 3) ((plcF R ((c : Nat) : Int)) / 16)) (27 + 18 * f + 4) ((plcF R ((c : Nat) : Int)) % 16))) ?_ rfl rfl (by rw [sa_up0])
      refine M_aload_n (pc := 51) C dX8_placeTail_51 rfl (by decide) ?_
      refine M_iload_n (pc := 52) C dX8_placeTail_52 rfl ?_
      refine M_iconst (pc := 53) C dX8_placeTail_53 ?_
      refine M_aload_n (pc := 54) C dX8_placeTail_54 rfl (by decide) ?_
      refine M_iload_n (pc := 55) C dX8_placeTail_55 rfl ?_
      refine M_iconst (pc := 56) C dX8_placeTail_56 ?_
      refine A_cV (pc := 57) C (x := vI (ro (rs (rs (rs R (3 + (plcF R ((c : Nat) : Int)).toNat / 16) 2) (27 + 18 * f + 3) ((plcF R ((c : Nat) : Int)) / 16)) (27 + 18 * f + 4) ((plcF R ((c : Nat) : Int)) % 16)) f 1)) (a := 84) (c := 8) (c_X8_of (f := f) (w := 1) hT (by omega)) yw_X8_of lk_X8_49 rfl (congrArg Prod.fst (tt_84 hT)) hc_8 rfl dX8_placeTail_57 rfl (Nat.le_of_ble_eq_true rfl) (by decide) ⟨Nat.le_refl _, Nat.le_refl _⟩ ?_
      refine M_rd (pc := 60) C 85 (27 + 18 * f + 1) (fun (r_57_0 : i32 (ro (rs (rs (rs R (3 + (plcF R ((c : Nat) : Int)).toNat / 16) 2) (27 + 18 * f + 3) ((plcF R ((c : Nat) : Int)) / 16)) (27 + 18 * f + 4) ((plcF R ((c : Nat) : Int)) % 16)) f 1)) => ?_)
      refine M_iload_n (pc := 60) C dX8_placeTail_60 rfl ?_
      refine M_iadd (pc := 61) C dX8_placeTail_61 ?_
      refine M_wr (pc := 62) ?_
      refine A_cVv (pc := 62) C (a := 84) (c := 8) (c_X8_lay (f := f) (w := 1) hT (by omega) (wr_i32 _)) yw_X8_lay lk_X8_96 rfl (congrArg Prod.fst (tt_84 hT)) hc_8 rfl dX8_placeTail_62 rfl (Nat.le_of_ble_eq_true rfl) (by decide) ⟨Nat.le_refl _, Nat.le_refl _⟩ ?_
      refine M.to (v2 := sa v 85 (rs (rs (rs (rs R (3 + (plcF R ((c : Nat) : Int)).toNat / 16) 2) (27 + 18 * f + 3) ((plcF R ((c : Nat) : Int)) / 16)) (27 + 18 * f + 4) ((plcF R ((c : Nat) : Int)) % 16)) (27 + 18 * f + 1) (wr ((ro (rs (rs (rs R (3 + (plcF R ((c : Nat) : Int)).toNat / 16) 2) (27 + 18 * f + 3) ((plcF R ((c : Nat) : Int)) / 16)) (27 + 18 * f + 4) ((plcF R ((c : Nat) : Int)) % 16)) f 1) + ((c : Nat) : Int))))) ?_ rfl rfl (by rw [sa_up0])
      refine M_aload_n (pc := 65) C dX8_placeTail_65 rfl (by decide) ?_
      refine M_iload_n (pc := 66) C dX8_placeTail_66 rfl ?_
      refine M_iconst (pc := 67) C dX8_placeTail_67 ?_
      refine M_aload_n (pc := 68) C dX8_placeTail_68 rfl (by decide) ?_
      refine M_iload_n (pc := 69) C dX8_placeTail_69 rfl ?_
      refine M_iconst (pc := 70) C dX8_placeTail_70 ?_
      refine A_cV (pc := 71) C (x := vI (ro (rs (rs (rs (rs R (3 + (plcF R ((c : Nat) : Int)).toNat / 16) 2) (27 + 18 * f + 3) ((plcF R ((c : Nat) : Int)) / 16)) (27 + 18 * f + 4) ((plcF R ((c : Nat) : Int)) % 16)) (27 + 18 * f + 1) (wr ((ro (rs (rs (rs R (3 + (plcF R ((c : Nat) : Int)).toNat / 16) 2) (27 + 18 * f + 3) ((plcF R ((c : Nat) : Int)) / 16)) (27 + 18 * f + 4) ((plcF R ((c : Nat) : Int)) % 16)) f 1) + ((c : Nat) : Int)))) f 5)) (a := 84) (c := 8) (c_X8_of (f := f) (w := 5) hT (by omega)) yw_X8_of lk_X8_49 rfl (congrArg Prod.fst (tt_84 hT)) hc_8 rfl dX8_placeTail_71 rfl (Nat.le_of_ble_eq_true rfl) (by decide) ⟨Nat.le_refl _, Nat.le_refl _⟩ ?_
      refine M_rd (pc := 74) C 85 (27 + 18 * f + 5) (fun (r_71_0 : i32 (ro (rs (rs (rs (rs R (3 + (plcF R ((c : Nat) : Int)).toNat / 16) 2) (27 + 18 * f + 3) ((plcF R ((c : Nat) : Int)) / 16)) (27 + 18 * f + 4) ((plcF R ((c : Nat) : Int)) % 16)) (27 + 18 * f + 1) (wr ((ro (rs (rs (rs R (3 + (plcF R ((c : Nat) : Int)).toNat / 16) 2) (27 + 18 * f + 3) ((plcF R ((c : Nat) : Int)) / 16)) (27 + 18 * f + 4) ((plcF R ((c : Nat) : Int)) % 16)) f 1) + ((c : Nat) : Int)))) f 5)) => ?_)
      refine M_iconst (pc := 74) C dX8_placeTail_74 ?_
      refine M_iadd (pc := 75) C dX8_placeTail_75 ?_
      refine M_wr (pc := 76) ?_
      refine A_cVv (pc := 76) C (a := 84) (c := 8) (c_X8_lay (f := f) (w := 5) hT (by omega) (wr_i32 _)) yw_X8_lay lk_X8_96 rfl (congrArg Prod.fst (tt_84 hT)) hc_8 rfl dX8_placeTail_76 rfl (Nat.le_of_ble_eq_true rfl) (by decide) ⟨Nat.le_refl _, Nat.le_refl _⟩ ?_
      refine M.to (v2 := sa v 85 (rs (rs (rs (rs (rs R (3 + (plcF R ((c : Nat) : Int)).toNat / 16) 2) (27 + 18 * f + 3) ((plcF R ((c : Nat) : Int)) / 16)) (27 + 18 * f + 4) ((plcF R ((c : Nat) : Int)) % 16)) (27 + 18 * f + 1) (wr ((ro (rs (rs (rs R (3 + (plcF R ((c : Nat) : Int)).toNat / 16) 2) (27 + 18 * f + 3) ((plcF R ((c : Nat) : Int)) / 16)) (27 + 18 * f + 4) ((plcF R ((c : Nat) : Int)) % 16)) f 1) + ((c : Nat) : Int)))) (27 + 18 * f + 5) (wr ((ro (rs (rs (rs (rs R (3 + (plcF R ((c : Nat) : Int)).toNat / 16) 2) (27 + 18 * f + 3) ((plcF R ((c : Nat) : Int)) / 16)) (27 + 18 * f + 4) ((plcF R ((c : Nat) : Int)) % 16)) (27 + 18 * f + 1) (wr ((ro (rs (rs (rs R (3 + (plcF R ((c : Nat) : Int)).toNat / 16) 2) (27 + 18 * f + 3) ((plcF R ((c : Nat) : Int)) / 16)) (27 + 18 * f + 4) ((plcF R ((c : Nat) : Int)) % 16)) f 1) + ((c : Nat) : Int)))) f 5) + 1)))) ?_ rfl rfl (by rw [sa_up0])
      refine M_iconst (pc := 79) C dX8_placeTail_79 ?_
      exact M_zretP (pc := 80) C rfl (Or.inr rfl) dX8_placeTail_80 (by have e := ptO_s (R := R) (f := f) (c := ((c : Nat) : Int)) (by omega) (by omega); exact ⟨ptR R f ((c : Nat) : Int), rfl, by rw [e]; rfl, fun R2 h => (by rw [e] at h; exact Option.some.inj h), fun j hj => ptR_hi hf hj⟩)
    · refine M_iconst (pc := 17) C dX8_placeTail_17 ?_
      exact M_zretP (pc := 18) C rfl (Or.inl rfl) dX8_placeTail_18 (by have e := ptO_n (R := R) (f := f) (c := ((c : Nat) : Int)) (by omega) (by omega); exact ⟨R, rfl, by rw [e]; rfl, fun R2 h => (by rw [e] at h; cases h), fun _ _ => rfl⟩)
  · refine M_iconst (pc := 4) C dX8_placeTail_4 ?_
    exact M_zretP (pc := 5) C rfl (Or.inr rfl) dX8_placeTail_5 (by have e := ptO_0 (R := R) (f := f) (c := ((c : Nat) : Int)) (by omega); exact ⟨R, rfl, by rw [e]; rfl, fun R2 h => (by rw [e] at h; exact Option.some.inj h), fun _ _ => rfl⟩)
theorem c_X8_takeWhole {N : Nat} {T : Ty} {R : Nat → Int} {f m n : Nat} {v : Ct} (hT : TT T) (hI : RI R) (hf : f < 10) (hm : m ≤ 12) (h0 : ro R f 1 % 16 = 0) (hn : n = m - (ro R f 1 / 16).toNat) : RunsP mX8_takeWhole 2 0 0 [vR 84, vI ((f : Nat) : Int), vI ((m : Nat) : Int)] N T (sa v 85 R) N T (fun r1 v1 => ∃ R1, v1 = sa v 85 R1 ∧ r1 = some (vI (Bi (twO R f n).isSome)) ∧ (∀ R2, twO R f n = some R2 → R1 = R2) ∧ ∀ j, 207 ≤ j → R1 j = R j) := by
  refine RunsP.of (by decide) (Nat.le_of_ble_eq_true rfl) fun κ C => ?_
  refine loop_ms (S := Nat → Int) (P := fun S1 => (RI S1 ∧ ro S1 f 1 % 16 = 0 ∧ twO R f n = twO S1 f (m - (ro S1 f 1 / 16).toNat) ∧ ∀ j, 207 ≤ j → S1 j = R j) → M κ N T 0 [some (vR 84), some (vI ((f : Nat) : Int)), some (vI ((m : Nat) : Int)), none] [] (sa v 85 S1) 0 0 (QP κ N T (fun r1 v1 => ∃ R1, v1 = sa v 85 R1 ∧ r1 = some (vI (Bi (twO R f n).isSome)) ∧ (∀ R2, twO R f n = some R2 → R1 = R2) ∧ ∀ j, 207 ≤ j → R1 j = R j) 0 0)) (fun S1 => m - (ro S1 f 1 / 16).toNat) (fun S1 ih => ?_) R ⟨hI, h0, by rw [hn], fun _ _ => rfl⟩
  intro hin
  obtain ⟨hI1, hz1, h2, h3⟩ := hin
  have hf2 := (hI1 f hf).2.1
  refine M_aload_n (pc := 0) C dX8_takeWhole_0 rfl (by decide) ?_
  refine M_iload_n (pc := 1) C dX8_takeWhole_1 rfl ?_
  refine A_cV (pc := 2) C (x := vI (ro S1 f 1 / 16)) (a := 84) (c := 8) (c_X8_wholeOf hT hI1 (f := f) (by omega)) yw_X8_wholeOf lk_X8_93 rfl (congrArg Prod.fst (tt_84 hT)) hc_8 rfl dX8_takeWhole_2 rfl (Nat.le_of_ble_eq_true rfl) (by decide) ⟨Nat.le_refl _, Nat.le_refl _⟩ ?_
  refine M_iload_n (pc := 5) C dX8_takeWhole_5 rfl ?_
  refine M_icmp_ge (pc := 6) C (tgt := 62) (by omega) (by omega) dX8_takeWhole_6 (by decide) (fun h_6 => ?_) (fun h_6 => ?_)
  · refine M_iconst (pc := 62) C dX8_takeWhole_62 ?_
    exact M_zretP (pc := 63) C rfl (Or.inr rfl) dX8_takeWhole_63 (by have e : twO R f n = some S1 := (by rw [h2, show m - (ro S1 f 1 / 16).toNat = 0 by omega]; rfl); exact ⟨S1, rfl, by rw [e]; rfl, fun R2 h => (by rw [e] at h; exact Option.some.inj h), h3⟩)
  · refine M_aload_n (pc := 9) C dX8_takeWhole_9 rfl (by decide) ?_
    refine A_cV (pc := 10) C (x := vI (lowF S1)) (a := 84) (c := 8) (c_X8_lowestFree hT) yw_X8_lowestFree lk_X8_74 rfl (congrArg Prod.fst (tt_84 hT)) hc_8 rfl dX8_takeWhole_10 rfl (Nat.le_of_ble_eq_true rfl) (by decide) ⟨Nat.le_refl _, Nat.le_refl _⟩ ?_
    have hl_10 := lowF_bd S1
    refine M_istore_n (pc := 13) C dX8_takeWhole_13 (by decide) ?_
    refine M_iload_n (pc := 14) C dX8_takeWhole_14 rfl ?_
    refine M_iconst (pc := 15) C dX8_takeWhole_15 ?_
    refine M_icmp_ne (pc := 16) C (tgt := 21) (by omega) (by omega) dX8_takeWhole_16 (by decide) (fun h_16 => ?_) (fun h_16 => ?_)
    · refine M_aload_n (pc := 21) C dX8_takeWhole_21 rfl (by decide) ?_
      refine A_getR (pc := 22) C fl_X8_7 rfl (a := 84) (j := 85) rfl (tt_84 hT) rfl dX8_takeWhole_22 ?_
      refine M_iconst (pc := 25) C dX8_takeWhole_25 ?_
      refine M_iload_n (pc := 26) C dX8_takeWhole_26 rfl ?_
      refine M_iadd (pc := 27) C dX8_takeWhole_27 ?_
      refine M_iconst (pc := 28) C dX8_takeWhole_28 ?_
      refine A_iast (pc := 29) C (a := 85) (q := (3 + (lowF S1).toNat)) rfl (tt_85 hT) (by decide) (by omega) (by omega) (by omega) dX8_takeWhole_29 ?_
      refine M.to (pc := 30) (v2 := sa v 85 (rs S1 (3 + (lowF S1).toNat) 1)) ?_ rfl rfl (by rw [sa_up0])
      refine M_aload_n (pc := 30) C dX8_takeWhole_30 rfl (by decide) ?_
      refine M_iload_n (pc := 31) C dX8_takeWhole_31 rfl ?_
      refine M_bipush (pc := 32) C (by decide) dX8_takeWhole_32 ?_
      refine M_aload_n (pc := 34) C dX8_takeWhole_34 rfl (by decide) ?_
      refine M_iload_n (pc := 35) C dX8_takeWhole_35 rfl ?_
      refine A_cV (pc := 36) C (x := vI (ro (rs S1 (3 + (lowF S1).toNat) 1) f 1 / 16)) (a := 84) (c := 8) (c_X8_wholeOf hT (RI_rsb hI1 (by omega) 1) (f := f) (by omega)) yw_X8_wholeOf lk_X8_93 rfl (congrArg Prod.fst (tt_84 hT)) hc_8 rfl dX8_takeWhole_36 rfl (Nat.le_of_ble_eq_true rfl) (by decide) ⟨Nat.le_refl _, Nat.le_refl _⟩ ?_
      refine M_iadd (pc := 39) C dX8_takeWhole_39 ?_
      refine M_iload_n (pc := 40) C dX8_takeWhole_40 rfl ?_
      have e1 : ro (rs S1 (3 + (lowF S1).toNat) 1) f 1 = ro S1 f 1 := ro_rsb (by omega)
      refine A_cVv (pc := 41) C (a := 84) (c := 8) (c_X8_lay_i hT (f := f) (w := 6 + (ro (rs S1 (3 + (lowF S1).toNat) 1) f 1 / 16).toNat) (by omega) (by omega) (by omega)) yw_X8_lay lk_X8_96 rfl (congrArg Prod.fst (tt_84 hT)) hc_8 rfl dX8_takeWhole_41 rfl (Nat.le_of_ble_eq_true rfl) (by decide) ⟨Nat.le_refl _, Nat.le_refl _⟩ ?_
      refine M.to (v2 := sa v 85 (rs (rs S1 (3 + (lowF S1).toNat) 1) (27 + 18 * f + (6 + (ro (rs S1 (3 + (lowF S1).toNat) 1) f 1 / 16).toNat)) (lowF S1))) ?_ rfl rfl (by rw [sa_up0])
      refine M_aload_n (pc := 44) C dX8_takeWhole_44 rfl (by decide) ?_
      refine M_iload_n (pc := 45) C dX8_takeWhole_45 rfl ?_
      refine M_iconst (pc := 46) C dX8_takeWhole_46 ?_
      refine M_aload_n (pc := 47) C dX8_takeWhole_47 rfl (by decide) ?_
      refine M_iload_n (pc := 48) C dX8_takeWhole_48 rfl ?_
      refine M_iconst (pc := 49) C dX8_takeWhole_49 ?_
      refine A_cV (pc := 50) C (x := vI (ro (rs (rs S1 (3 + (lowF S1).toNat) 1) (27 + 18 * f + (6 + (ro (rs S1 (3 + (lowF S1).toNat) 1) f 1 / 16).toNat)) (lowF S1)) f 1)) (a := 84) (c := 8) (c_X8_of (f := f) (w := 1) hT (by omega)) yw_X8_of lk_X8_49 rfl (congrArg Prod.fst (tt_84 hT)) hc_8 rfl dX8_takeWhole_50 rfl (Nat.le_of_ble_eq_true rfl) (by decide) ⟨Nat.le_refl _, Nat.le_refl _⟩ ?_
      refine M_rd (pc := 53) C 85 (27 + 18 * f + 1) (fun (r_50_0 : i32 (ro (rs (rs S1 (3 + (lowF S1).toNat) 1) (27 + 18 * f + (6 + (ro (rs S1 (3 + (lowF S1).toNat) 1) f 1 / 16).toNat)) (lowF S1)) f 1)) => ?_)
      refine M_bipush (pc := 53) C (by decide) dX8_takeWhole_53 ?_
      refine M_iadd (pc := 55) C dX8_takeWhole_55 ?_
      refine M_wr (pc := 56) ?_
      refine A_cVv (pc := 56) C (a := 84) (c := 8) (c_X8_lay (f := f) (w := 1) hT (by omega) (wr_i32 _)) yw_X8_lay lk_X8_96 rfl (congrArg Prod.fst (tt_84 hT)) hc_8 rfl dX8_takeWhole_56 rfl (Nat.le_of_ble_eq_true rfl) (by decide) ⟨Nat.le_refl _, Nat.le_refl _⟩ ?_
      refine M.to (v2 := sa v 85 (rs (rs (rs S1 (3 + (lowF S1).toNat) 1) (27 + 18 * f + (6 + (ro (rs S1 (3 + (lowF S1).toNat) 1) f 1 / 16).toNat)) (lowF S1)) (27 + 18 * f + 1) (wr ((ro (rs (rs S1 (3 + (lowF S1).toNat) 1) (27 + 18 * f + (6 + (ro (rs S1 (3 + (lowF S1).toNat) 1) f 1 / 16).toNat)) (lowF S1)) f 1) + 16)))) ?_ rfl rfl (by rw [sa_up0])
      refine M_goto (pc := 59) C (tgt := 0) dX8_takeWhole_59 (by decide) ?_
      refine M.drop [true, true, true, false] rfl ?_
      have e8 : ro (twS S1 f) f 1 = ro S1 f 1 + 16 := by rw [twS_ro ⟨hf2.1, by omega⟩ (by omega), if_pos ⟨rfl, rfl⟩]
      exact M.to (ih (twS S1 f) (by omega) ⟨RI_twS hf hI1 (by omega) hz1 (by omega), by omega, by rw [h2, show m - (ro S1 f 1 / 16).toNat = (m - (ro (twS S1 f) f 1 / 16).toNat) + 1 by omega, twO_s (by omega)], fun j hj => (twS_hi hf ⟨hf2.1, by omega⟩ hj).trans (h3 j hj)⟩) rfl rfl rfl
    · refine M_iconst (pc := 19) C dX8_takeWhole_19 ?_
      exact M_zretP (pc := 20) C rfl (Or.inl rfl) dX8_takeWhole_20 (by have e : twO R f n = none := (by rw [h2, show m - (ro S1 f 1 / 16).toNat = (m - (ro S1 f 1 / 16).toNat - 1) + 1 by omega, twO_n (by omega)]); exact ⟨S1, rfl, by rw [e]; rfl, fun R2 h => (by rw [e] at h; cases h), h3⟩)
theorem c_X8_refused {N : Nat} {T : Ty} {A R : Nat → Int} {v : Ct} (hT : TT T)  : Runs mX8_refused 1 0 0 [vR 84] N T (sa (sa v 88 A) 85 R) (some (vI (-1))) N T (sa (sa v 88 A) 85 (rfR (cpA R A 0 0 207))) := by
  refine Runs.of (by decide) (Nat.le_of_ble_eq_true rfl) fun κ C => ?_
  refine M_aload_n (pc := 0) C dX8_refused_0 rfl (by decide) ?_
  refine A_cVv (pc := 1) C (a := 84) (c := 8) (c_X8_putBack hT (v := v) (A := A) (R := R)) yw_X8_putBack lk_X8_106 rfl (congrArg Prod.fst (tt_84 hT)) hc_8 rfl dX8_refused_1 rfl (Nat.le_of_ble_eq_true rfl) (by decide) ⟨Nat.le_refl _, Nat.le_refl _⟩ ?_
  refine M_aload_n (pc := 4) C dX8_refused_4 rfl (by decide) ?_
  refine A_getR (pc := 5) C fl_X8_7 rfl (a := 84) (j := 85) rfl (tt_84 hT) rfl dX8_refused_5 ?_
  refine M_iconst (pc := 8) C dX8_refused_8 ?_
  refine M_dup2 (pc := 9) C rfl rfl dX8_refused_9 ?_
  refine A_iald (pc := 10) C (a := 85) (q := 0) rfl (tt_85 hT) (by decide) rfl (by omega) dX8_refused_10 (fun (r_10 : i32 ((cpA R A 0 0 207) 0)) => ?_)
  refine M.to (pc := 11) (st2 := [vI ((cpA R A 0 0 207) 0), vI 0, vR 85]) ?_ rfl rfl rfl
  refine M_iconst (pc := 11) C dX8_refused_11 ?_
  refine M_iadd (pc := 12) C dX8_refused_12 ?_
  refine M_wr (pc := 13) ?_
  refine A_iast (pc := 13) C (a := 85) (q := 0) rfl (tt_85 hT) (by decide) rfl (by omega) (wr_i32 _) dX8_refused_13 ?_
  refine M.to (pc := 14) (v2 := sa (sa v 88 A) 85 (rs (cpA R A 0 0 207) 0 (wr (((cpA R A 0 0 207) 0) + 1)))) ?_ rfl rfl (by rw [sa_up0])
  refine M_iconst (pc := 14) C dX8_refused_14 ?_
  exact M_iret (pc := 15) C rfl dX8_refused_15 rfl rfl
theorem c_X8_growsInPlace {N : Nat} {T : Ty} {f n : Nat} {v : Ct} (hT : TT T) (hI : RI (v 85)) (hf : f < 10) (hn : n ≤ 200) : Runs mX8_growsInPlace 4 0 0 [vR 84, vI ((f : Nat) : Int), vI ((n : Nat) : Int)] N T v (some (vI (Bi (gip (v 85) f n)))) N T v := by
  have hf1 := hI f hf
  refine Runs.of (by decide) (Nat.le_of_ble_eq_true rfl) fun κ C => ?_
  refine M_aload_n (pc := 0) C dX8_growsInPlace_0 rfl (by decide) ?_
  refine M_iload_n (pc := 1) C dX8_growsInPlace_1 rfl ?_
  refine A_cV (pc := 2) C (x := vI (ro (v 85) f 1 % 16)) (a := 84) (c := 8) (c_X8_tailOf hT hI (f := f) (by omega)) yw_X8_tailOf lk_X8_57 rfl (congrArg Prod.fst (tt_84 hT)) hc_8 rfl dX8_growsInPlace_2 rfl (Nat.le_of_ble_eq_true rfl) (by decide) ⟨Nat.le_refl _, Nat.le_refl _⟩ ?_
  refine M_istore_n (pc := 5) C dX8_growsInPlace_5 (by decide) ?_
  have hj_38 : M κ N T 38 [some (vR 84), some (vI ((f : Nat) : Int)), some (vI ((n : Nat) : Int)), some (vI (ro (v 85) f 1 % 16)), none, none] [vI (Bi (gip0 (v 85) f n))] v 0 0 (QR κ (some (vI (Bi (gip (v 85) f n)))) N T v 0 0) := by
    refine M_istore (pc := 38) C dX8_growsInPlace_38 (by decide) ?_
    refine M_iconst (pc := 40) C dX8_growsInPlace_40 ?_
    refine M_istore (pc := 41) C dX8_growsInPlace_41 (by decide) ?_
    refine M.to (L2 := [some (vR 84), some (vI ((f : Nat) : Int)), some (vI ((n : Nat) : Int)), some (vI (ro (v 85) f 1 % 16)), some (vI (Bi (gip0 (v 85) f n && !(orN (gipT (v 85) f) 0)))), some (vI 0)]) ?_ (by show _ = [some (vR 84), some (vI ((f : Nat) : Int)), some (vI ((n : Nat) : Int)), some (vI (ro (v 85) f 1 % 16)), some (vI (Bi (gip0 (v 85) f n && true))), some (vI 0)]; rw [Bool.and_true]; rfl) rfl rfl
    refine loop_le (P := fun i => M κ N T 43 [some (vR 84), some (vI ((f : Nat) : Int)), some (vI ((n : Nat) : Int)), some (vI (ro (v 85) f 1 % 16)), some (vI (Bi (gip0 (v 85) f n && !(orN (gipT (v 85) f) i)))), some (vI ((i : Nat) : Int))] [] v 0 0 (QR κ (some (vI (Bi (gip (v 85) f n)))) N T v 0 0)) n (fun i hi ih => ?_)
    refine M_iload (pc := 43) C dX8_growsInPlace_43 rfl ?_
    refine M_iload_n (pc := 45) C dX8_growsInPlace_45 rfl ?_
    refine M_icmp_ge (pc := 46) C (tgt := 91) (by omega) (by omega) dX8_growsInPlace_46 (by decide) (fun h_46 => ?_) (fun h_46 => ?_)
    · refine M_iload (pc := 91) C dX8_growsInPlace_91 rfl ?_
      exact M_zret (pc := 93) C rfl (Bi_01 _) dX8_growsInPlace_93 (by first | (rw [show i = n by omega]; rfl) | (rw [gip_exit (by omega) b_51, b_51])) rfl
    · refine M_iload (pc := 49) C dX8_growsInPlace_49 rfl ?_
      refine M_if_eq (pc := 51) C (tgt := 91) (Bi_i32 _) dX8_growsInPlace_51 (by decide) (fun h_51 => ?_) (fun h_51 => ?_)
      · have b_51 := Bi_eq0 h_51
        refine M_iload (pc := 91) C dX8_growsInPlace_91 rfl ?_
        exact M_zret (pc := 93) C rfl (Bi_01 _) dX8_growsInPlace_93 (by first | (rw [show i = n by omega]; rfl) | (rw [gip_exit (by omega) b_51, b_51])) rfl
      · have b_51 := Bi_ne0 h_51
        have hg0 : gip0 (v 85) f n = true := by have q := b_51; rw [Bool.and_eq_true] at q; exact q.1
        have hg1 := of_decide_eq_true hg0
        refine M_aload_n (pc := 54) C dX8_growsInPlace_54 rfl (by decide) ?_
        refine M_aload_n (pc := 55) C dX8_growsInPlace_55 rfl (by decide) ?_
        refine M_iload_n (pc := 56) C dX8_growsInPlace_56 rfl ?_
        refine M_iconst (pc := 57) C dX8_growsInPlace_57 ?_
        refine A_cV (pc := 58) C (x := vI (ro (v 85) f 3)) (a := 84) (c := 8) (c_X8_of (f := f) (w := 3) hT (by omega)) yw_X8_of lk_X8_49 rfl (congrArg Prod.fst (tt_84 hT)) hc_8 rfl dX8_growsInPlace_58 rfl (Nat.le_of_ble_eq_true rfl) (by decide) ⟨Nat.le_refl _, Nat.le_refl _⟩ ?_
        refine M_rd (pc := 61) C 85 (27 + 18 * f + 3) (fun (r_58_0 : i32 (ro (v 85) f 3)) => ?_)
        refine M_aload_n (pc := 61) C dX8_growsInPlace_61 rfl (by decide) ?_
        refine M_iload_n (pc := 62) C dX8_growsInPlace_62 rfl ?_
        refine M_iconst (pc := 63) C dX8_growsInPlace_63 ?_
        refine A_cV (pc := 64) C (x := vI (ro (v 85) f 4)) (a := 84) (c := 8) (c_X8_of (f := f) (w := 4) hT (by omega)) yw_X8_of lk_X8_49 rfl (congrArg Prod.fst (tt_84 hT)) hc_8 rfl dX8_growsInPlace_64 rfl (Nat.le_of_ble_eq_true rfl) (by decide) ⟨Nat.le_refl _, Nat.le_refl _⟩ ?_
        refine M_rd (pc := 67) C 85 (27 + 18 * f + 4) (fun (r_64_0 : i32 (ro (v 85) f 4)) => ?_)
        refine M_iload_n (pc := 67) C dX8_growsInPlace_67 rfl ?_
        refine M_iadd (pc := 68) C dX8_growsInPlace_68 ?_
        refine M_iload (pc := 69) C dX8_growsInPlace_69 rfl ?_
        refine M_iadd (pc := 71) C dX8_growsInPlace_71 ?_
        refine A_cV (pc := 72) C (x := vI (Bi (isTk (v 85) (ro (v 85) f 3) (((ro (v 85) f 4) + (ro (v 85) f 1 % 16)) + ((i : Nat) : Int))))) (a := 84) (c := 8) (c_X8_isTaken hT hI (b := ro (v 85) f 3) (c := ((ro (v 85) f 4) + (ro (v 85) f 1 % 16)) + ((i : Nat) : Int)) (by omega) (by omega)) yw_X8_isTaken lk_X8_65 rfl (congrArg Prod.fst (tt_84 hT)) hc_8 rfl dX8_growsInPlace_72 rfl (Nat.le_of_ble_eq_true rfl) (by decide) ⟨Nat.le_refl _, Nat.le_refl _⟩ ?_
        refine T_ne (pc := 75) C dX8_growsInPlace_75 dX8_growsInPlace_78 dX8_growsInPlace_79 dX8_growsInPlace_82 ?_
        refine M_istore (pc := 83) C dX8_growsInPlace_83 (by decide) ?_
        refine M_iinc (pc := 85) C dX8_growsInPlace_85 rfl (by decide) ?_
        refine M_goto (pc := 88) C (tgt := 43) dX8_growsInPlace_88 (by decide) ?_
        exact M.to (ih (by omega)) (by rw [gip_step b_51]; rfl) rfl rfl
  refine M_iload_n (pc := 6) C dX8_growsInPlace_6 rfl ?_
  refine M_if_le (pc := 7) C (tgt := 37) (by omega) dX8_growsInPlace_7 (by decide) (fun h_7 => ?_) (fun h_7 => ?_)
  · refine M_iconst (pc := 37) C dX8_growsInPlace_37 ?_
    exact M.to hj_38 rfl (by unfold gip0; first | (rw [decide_eq_true (by omega)]; rfl) | (rw [decide_eq_false (by omega)]; rfl)) rfl
  · refine M_iload_n (pc := 10) C dX8_growsInPlace_10 rfl ?_
    refine M_iload_n (pc := 11) C dX8_growsInPlace_11 rfl ?_
    refine M_iadd (pc := 12) C dX8_growsInPlace_12 ?_
    refine M_bipush (pc := 13) C (by decide) dX8_growsInPlace_13 ?_
    refine M_icmp_ge (pc := 15) C (tgt := 37) (by omega) (by omega) dX8_growsInPlace_15 (by decide) (fun h_15 => ?_) (fun h_15 => ?_)
    · refine M_iconst (pc := 37) C dX8_growsInPlace_37 ?_
      exact M.to hj_38 rfl (by unfold gip0; first | (rw [decide_eq_true (by omega)]; rfl) | (rw [decide_eq_false (by omega)]; rfl)) rfl
    · refine M_aload_n (pc := 18) C dX8_growsInPlace_18 rfl (by decide) ?_
      refine M_iload_n (pc := 19) C dX8_growsInPlace_19 rfl ?_
      refine M_iconst (pc := 20) C dX8_growsInPlace_20 ?_
      refine A_cV (pc := 21) C (x := vI (ro (v 85) f 4)) (a := 84) (c := 8) (c_X8_of (f := f) (w := 4) hT (by omega)) yw_X8_of lk_X8_49 rfl (congrArg Prod.fst (tt_84 hT)) hc_8 rfl dX8_growsInPlace_21 rfl (Nat.le_of_ble_eq_true rfl) (by decide) ⟨Nat.le_refl _, Nat.le_refl _⟩ ?_
      refine M_rd (pc := 24) C 85 (27 + 18 * f + 4) (fun (r_21_0 : i32 (ro (v 85) f 4)) => ?_)
      refine M_iload_n (pc := 24) C dX8_growsInPlace_24 rfl ?_
      refine M_iadd (pc := 25) C dX8_growsInPlace_25 ?_
      refine M_iload_n (pc := 26) C dX8_growsInPlace_26 rfl ?_
      refine M_iadd (pc := 27) C dX8_growsInPlace_27 ?_
      refine M_bipush (pc := 28) C (by decide) dX8_growsInPlace_28 ?_
      refine M_icmp_gt (pc := 30) C (tgt := 37) (by omega) (by omega) dX8_growsInPlace_30 (by decide) (fun h_30 => ?_) (fun h_30 => ?_)
      · refine M_iconst (pc := 37) C dX8_growsInPlace_37 ?_
        exact M.to hj_38 rfl (by unfold gip0; first | (rw [decide_eq_true (by omega)]; rfl) | (rw [decide_eq_false (by omega)]; rfl)) rfl
      · refine M_iconst (pc := 33) C dX8_growsInPlace_33 ?_
        refine M_goto (pc := 34) C (tgt := 38) dX8_growsInPlace_34 (by decide) ?_
        exact M.to hj_38 rfl (by unfold gip0; first | (rw [decide_eq_true (by omega)]; rfl) | (rw [decide_eq_false (by omega)]; rfl)) rfl
