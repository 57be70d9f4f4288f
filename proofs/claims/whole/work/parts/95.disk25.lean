theorem c_X7_run {N : Nat} {T : Ty} {D H H2 A R P : Nat → Int} {n s : Nat} {c : Int} {v : Ct} (hT : TT T) (hx : v 67 1 = (n : Int)) (hn : n ≤ 60) (hwl : (wlI (v 68) n H2 60).1 = true) (hV : DV v 1 R c) (hHV : HVr v P s c) (hc : c < 999900) (hH : HOK H) : RunsP mX7_run 8 0 0 [vR 0] N T (sa v 69 D) N T (fun r1 v1 => r1 = some (vI (((rnI (v 68) n H A R 60).2.2.1 : Nat) : Int)) ∧ DV v1 1 (rnI (v 68) n H A R 60).2.2.2.2.2 (c + 61) ∧ HVr v1 (svP P R s) (svN s) (c + 61) ∧ v1 67 1 = 0 ∧ ∀ a, (a = 66 ∨ a = 68 ∨ 84 ≤ a) → v1 a = v a) := by
  have hR : DRx R := ⟨_, _, _, _, _, _, _, _, hV.1⟩
  obtain ⟨w1, w2, -, -⟩ := (wl_rd (U := v 68) (H := H2) hn D).1 hwl
  obtain ⟨-, -, w3, w4⟩ := (wl_rd (U := v 68) (H := H2) hn (rdE (v 68) D n)).1 hwl
  have hacc : acc (v 68) (rdE (v 68) D n) n := ⟨w3, w4⟩
  refine RunsP.of (by decide) (Nat.le_of_ble_eq_true rfl) fun κ C => ?_
  refine M_aload_n (pc := 0) C dX7_run_0 rfl (by decide) ?_
  refine A_getR (pc := 1) C fl_X7_37 rfl (a := 0) (j := 69) rfl (tt_0 hT) rfl dX7_run_1 ?_
  refine M_aload_n (pc := 4) C dX7_run_4 rfl (by decide) ?_
  refine A_getR (pc := 5) C fl_X7_30 rfl (a := 0) (j := 67) rfl (tt_0 hT) rfl dX7_run_5 ?_
  refine A_cV (pc := 8) C (x := vI (rdV (v 68) D n)) (a := 69) (c := 3) (c_X3_readable hT (v := v) (D := D) hx hn) yw_X3_readable lk_X7_138 rfl (congrArg Prod.fst (tt_69 hT)) hc_3 rfl dX7_run_8 rfl (Nat.le_of_ble_eq_true rfl) (by decide) ⟨Nat.le_refl _, Nat.le_refl _⟩ ?_
  refine M_aload_n (pc := 11) C dX7_run_11 rfl (by decide) ?_
  refine A_getR (pc := 12) C fl_X7_30 rfl (a := 0) (j := 67) rfl (tt_0 hT) rfl dX7_run_12 ?_
  refine A_cV (pc := 15) C (x := vI (v 67 1)) (a := 67) (c := 6) (c_X6_length hT (v := sa v 69 (rdE (v 68) D n))) yw_X6_length lk_X7_131 rfl (congrArg Prod.fst (tt_67 hT)) hc_6 rfl dX7_run_15 rfl (Nat.le_of_ble_eq_true rfl) (by decide) ⟨Nat.le_refl _, Nat.le_refl _⟩ ?_
  refine M.to (st2 := [vI ((n : Nat) : Int), vI ((n : Nat) : Int)]) ?_ rfl (by rw [w1, hx]) rfl
  refine M_icmp_lt (pc := 18) C (tgt := 31) (by omega) (by omega) dX7_run_18 (by decide) (fun h_18 => ?_) (fun h_18 => ?_)
  · exfalso
    omega
  · refine M_aload_n (pc := 21) C dX7_run_21 rfl (by decide) ?_
    refine A_getR (pc := 22) C fl_X7_37 rfl (a := 0) (j := 69) rfl (tt_0 hT) rfl dX7_run_22 ?_
    refine A_cV (pc := 25) C (x := vI (Bi (decide ((rdE (v 68) D n) 0 = 4 ∨ (rdE (v 68) D n) 0 = 5)))) (a := 69) (c := 3) (c_X3_canEndHere hT (v := sa v 69 (rdE (v 68) D n))) yw_X3_canEndHere lk_X7_142 rfl (congrArg Prod.fst (tt_69 hT)) hc_3 rfl dX7_run_25 rfl (Nat.le_of_ble_eq_true rfl) (by decide) ⟨Nat.le_refl _, Nat.le_refl _⟩ ?_
    refine M_if_ne (pc := 28) C (tgt := 41) (Bi_i32 _) dX7_run_28 (by decide) (fun h_28 => ?_) (fun h_28 => ?_)
    · have b_28 := Bid_ne0 h_28
      refine M_aload_n (pc := 41) C dX7_run_41 rfl (by decide) ?_
      refine A_getR (pc := 42) C fl_X7_19 rfl (a := 0) (j := 10) rfl (tt_0 hT) rfl dX7_run_42 ?_
      refine M_aload_n (pc := 45) C dX7_run_45 rfl (by decide) ?_
      refine A_getR (pc := 46) C fl_X7_12 rfl (a := 0) (j := 1) rfl (tt_0 hT) rfl dX7_run_46 ?_
      refine A_pV (pc := 49) C (a := 10) (c := 2) (c_X2_storeR (v := sa v 69 (rdE (v 68) D n)) (r := R) (c := c) (P := P) (s := s) hT (hHV.same (fun a _ _ => sa_ne (show a ≠ 69 by omega) _)) (hV.same (fun k hk => sa_ne (show 1 + k ≠ 69 by omega) _) (fun _ _ => rfl))) yw_X2_store lk_X7_59 rfl (congrArg Prod.fst (tt_10 hT)) hc_2 rfl dX7_run_49 rfl (Nat.le_of_ble_eq_true rfl) (by decide) ⟨Nat.le_refl _, Nat.le_refl _⟩ (fun r_49 v_49 p_49 => ?_)
      obtain ⟨rfl, hH_49, hf_49⟩ := p_49
      refine M.to (pc := 52) (st2 := []) (v2 := v_49) ?_ rfl rfl rfl
      have g67 : v_49 67 = v 67 := (hf_49 67 (Or.inr (by decide))).trans (sa_ne (by decide) _)
      have g68 : v_49 68 = v 68 := (hf_49 68 (Or.inr (by decide))).trans (sa_ne (by decide) _)
      have g69 : v_49 69 = rdE (v 68) D n := (hf_49 69 (Or.inr (by decide))).trans (sa_eq _ _ _)
      have hV49 : DV v_49 1 R c := hV.same (fun k hk => (hf_49 (1 + k) (Or.inl (by omega))).trans (sa_ne (by omega) _)) (fun _ _ => rfl)
      refine M.to (v2 := sa v_49 69 (rdE (v 68) D n)) ?_ rfl rfl (by rw [← g69]; exact sa_self v_49 69)
      refine M_aload_n (pc := 52) C dX7_run_52 rfl (by decide) ?_
      refine A_pV (pc := 53) C (a := 0) (c := 7) (c_X7_obeyAll (v := v_49) (D := rdE (v 68) D n) (H := H) (A := A) (R := R) (n := n) (c := c) hT (by rw [g67]; exact hx) hn (by rw [g68]; exact hacc) hV49 (by omega) hR hH) yw_X7_obeyAll lk_X7_150 rfl (congrArg Prod.fst (tt_0 hT)) hc_7 rfl dX7_run_53 rfl (Nat.le_of_ble_eq_true rfl) (by decide) ⟨Nat.le_refl _, Nat.le_refl _⟩ (fun r_53 v_53 p_53 => ?_)
      obtain ⟨rfl, hW_53, ho_53⟩ := p_53
      refine M.to (pc := 56) (st2 := [vI (((rnI (v_49 68) n H A R 60).2.2.1 : Nat) : Int)]) (v2 := v_53) ?_ rfl rfl rfl
      rw [g68] at hW_53
      refine M.to (st2 := [vI (((rnI (v 68) n H A R 60).2.2.1 : Nat) : Int)]) ?_ rfl (by rw [g68]) rfl
      refine M_istore_n (pc := 56) C dX7_run_56 (by decide) ?_
      refine M_aload_n (pc := 57) C dX7_run_57 rfl (by decide) ?_
      refine A_getR (pc := 58) C fl_X7_30 rfl (a := 0) (j := 67) rfl (tt_0 hT) rfl dX7_run_58 ?_
      refine M.to (v2 := sa v_53 67 (v 67)) ?_ rfl rfl (by rw [← g67, ← ho_53 67 (by decide) (by decide)]; exact sa_self v_53 67)
      refine A_cVv (pc := 61) C (a := 67) (c := 6) (c_X6_empty hT (v := v_53) (X := v 67)) yw_X6_empty lk_X7_135 rfl (congrArg Prod.fst (tt_67 hT)) hc_6 rfl dX7_run_61 rfl (Nat.le_of_ble_eq_true rfl) (by decide) ⟨Nat.le_refl _, Nat.le_refl _⟩ ?_
      refine M_iload_n (pc := 64) C dX7_run_64 rfl ?_
      exact M_iretP (pc := 65) C rfl dX7_run_65 ⟨rfl, hW_53.same (fun k hk => sa_ne (show 1 + k ≠ 67 by omega) _) (fun _ _ => rfl), (hH_49.same (fun a q1 q2 => (sa_ne (show a ≠ 67 by omega) _).trans (ho_53 a (by omega) (by omega)))).mono (by omega), by rw [sa_eq, rs_eq], fun a q => (sa_ne (show a ≠ 67 by omega) _).trans ((ho_53 a (by omega) (by omega)).trans ((hf_49 a (by omega)).trans (sa_ne (by omega) _)))⟩
    · have b_28 := Bid_eq0 h_28
      exact absurd w2 b_28
