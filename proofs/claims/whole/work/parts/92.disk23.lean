theorem DV.doi {v : Ct} {r : Nat → Int} {c : Int} (h : DV v 1 r c) {x : Int} {a b : Nat} (hx : x = 43 ∨ x = 45 ∨ x = 60 ∨ x = 62) (ha : a ≤ 200) (hf : x ≠ 43 → a < 10) (hb : x = 60 ∨ x = 62 → 1 ≤ b ∧ b ≤ 200) : i32 (doV r x a b) := (DRx.do ⟨_, _, _, _, _, _, _, _, h.1⟩ hx ha hf hb).2
theorem DR.dlp {K O Rk Z B S W P r : Nat → Int} (H : DR K O Rk Z B S W P r) {f : Nat} (hf : f < 10) (hz : Z f ≠ -1) : dlV r f ≠ -1 := by
  obtain ⟨-, k2, -⟩ := H.del hf hz
  have h1 := dtV_bd K Z B S f
  omega
theorem c_X7_pack {N : Nat} {T : Ty} {r P : Nat → Int} {c : Int} {s : Nat} {v : Ct} (hT : TT T) (hV : DV v 1 r c) (hHV : HVr v P s c) (hc : c < 1000000) : RunsP mX7_pack 5 0 0 [vR 0] N T v N T (fun r1 v1 => r1 = some (vI (pkV r)) ∧ DV v1 1 (pkRR r) (c + 1) ∧ HVr v1 (svP P r s) (svN s) (c + 1) ∧ fr v v1) := by
  have hpi := pkV_i r
  refine RunsP.of (by decide) (Nat.le_of_ble_eq_true rfl) fun κ C => ?_
  refine M_aload_n (pc := 0) C dX7_pack_0 rfl (by decide) ?_
  refine A_getR (pc := 1) C fl_X7_19 rfl (a := 0) (j := 10) rfl (tt_0 hT) rfl dX7_pack_1 ?_
  refine M_aload_n (pc := 4) C dX7_pack_4 rfl (by decide) ?_
  refine A_getR (pc := 5) C fl_X7_12 rfl (a := 0) (j := 1) rfl (tt_0 hT) rfl dX7_pack_5 ?_
  refine A_pV (pc := 8) C (a := 10) (c := 2) (c_X2_storeR (v := v) (r := r) (P := P) (c := c) (s := s) hT hHV hV) yw_X2_store lk_X7_59 rfl (congrArg Prod.fst (tt_10 hT)) hc_2 rfl dX7_pack_8 rfl (Nat.le_of_ble_eq_true rfl) (by decide) ⟨Nat.le_refl _, Nat.le_refl _⟩ (fun r_8 v_8 p_8 => ?_)
  obtain ⟨rfl, hH_8, hf_8⟩ := p_8
  refine M.to (pc := 11) (st2 := []) (v2 := v_8) ?_ rfl rfl rfl
  have hV_8 : DV v_8 1 r c := hV.same (fun k hk => hf_8 _ (Or.inl (by omega))) (fun _ _ => rfl)
  refine M_aload_n (pc := 11) C dX7_pack_11 rfl (by decide) ?_
  refine A_getR (pc := 12) C fl_X7_44 rfl (a := 0) (j := 70) rfl (tt_0 hT) rfl dX7_pack_12 ?_
  refine M_aload_n (pc := 15) C dX7_pack_15 rfl (by decide) ?_
  refine A_getR (pc := 16) C fl_X7_12 rfl (a := 0) (j := 1) rfl (tt_0 hT) rfl dX7_pack_16 ?_
  refine A_pV (pc := 19) C (a := 70) (c := 4) (c_X4_planR (v := v_8) (r := r) (c := c) hT hV_8) yw_X4_plan lk_X7_111 rfl (congrArg Prod.fst (tt_70 hT)) hc_4 rfl dX7_pack_19 rfl (Nat.le_of_ble_eq_true rfl) (by decide) ⟨Nat.le_refl _, Nat.le_refl _⟩ (fun r_19 v_19 p_19 => ?_)
  obtain ⟨rfl, hf_19, ho_19⟩ := p_19
  refine M.to (pc := 22) (st2 := [vI (pkV r)]) (v2 := v_19) ?_ rfl rfl rfl
  refine M_istore_n (pc := 22) C dX7_pack_22 (by decide) ?_
  refine M_iload_n (pc := 23) C dX7_pack_23 rfl ?_
  refine M_iconst (pc := 24) C dX7_pack_24 ?_
  refine M_icmp_eq (pc := 25) C (tgt := 39) (by omega) (by omega) dX7_pack_25 (by decide) (fun h_25 => ?_) (fun h_25 => ?_)
  · have hpn : pkO r = none := ho_19.elim (fun q => q.2) (fun q => absurd h_25 q.1)
    refine M_iload_n (pc := 39) C dX7_pack_39 rfl ?_
    exact M_iretP (pc := 40) C rfl dX7_pack_40 (by first | exact ⟨rfl, (by rw [pkRR_s hr3]; exact hW_36), (hH_8.same (fun a h1 h2 => (ho_36 a (Or.inr h1)).trans (hf_19 a (Or.inl (by omega))))).mono (by omega), fun a ha => (ho_36 a (Or.inr (by omega))).trans ((hf_19 a (by omega)).trans (hf_8 a (Or.inr (by omega))))⟩ | exact ⟨rfl, (by rw [pkRR_n hpn]; exact ((hV_8.same (fun k hk => hf_19 _ (Or.inl (by omega))) (fun _ _ => rfl)).mono (by omega))), (hH_8.same (fun a h1 h2 => hf_19 a (Or.inl (by omega)))).mono (by omega), fun a ha => (hf_19 a (by omega)).trans (hf_8 a (Or.inr (by omega)))⟩)
  · obtain ⟨r3, hr3, hP⟩ : ∃ r3, pkO r = some r3 ∧ PLN v_8 v_19 r r3 := ho_19.elim (fun q => absurd q.1 h_25) (fun q => q.2)
    refine M_aload_n (pc := 28) C dX7_pack_28 rfl (by decide) ?_
    refine A_getR (pc := 29) C fl_X7_44 rfl (a := 0) (j := 70) rfl (tt_0 hT) rfl dX7_pack_29 ?_
    refine M_aload_n (pc := 32) C dX7_pack_32 rfl (by decide) ?_
    refine A_getR (pc := 33) C fl_X7_12 rfl (a := 0) (j := 1) rfl (tt_0 hT) rfl dX7_pack_33 ?_
    refine A_pV (pc := 36) C (a := 70) (c := 4) (c_X4_carryOutR (v0 := v_8) (v := v_19) (r := r) (r3 := r3) (c := c) hT hV_8 hc hP (fun a ha => hf_19 a (Or.inl ha))) yw_X4_carryOut lk_X7_115 rfl (congrArg Prod.fst (tt_70 hT)) hc_4 rfl dX7_pack_36 rfl (Nat.le_of_ble_eq_true rfl) (by decide) ⟨Nat.le_refl _, Nat.le_refl _⟩ (fun r_36 v_36 p_36 => ?_)
    obtain ⟨rfl, hW_36, ho_36⟩ := p_36
    refine M.to (pc := 39) (st2 := []) (v2 := v_36) ?_ rfl rfl rfl
    refine M_iload_n (pc := 39) C dX7_pack_39 rfl ?_
    exact M_iretP (pc := 40) C rfl dX7_pack_40 (by first | exact ⟨rfl, (by rw [pkRR_s hr3]; exact hW_36), (hH_8.same (fun a h1 h2 => (ho_36 a (Or.inr h1)).trans (hf_19 a (Or.inl (by omega))))).mono (by omega), fun a ha => (ho_36 a (Or.inr (by omega))).trans ((hf_19 a (by omega)).trans (hf_8 a (Or.inr (by omega))))⟩ | exact ⟨rfl, (by rw [pkRR_n hpn]; exact ((hV_8.same (fun k hk => hf_19 _ (Or.inl (by omega))) (fun _ _ => rfl)).mono (by omega))), (hH_8.same (fun a h1 h2 => hf_19 a (Or.inl (by omega)))).mono (by omega), fun a ha => (hf_19 a (by omega)).trans (hf_8 a (Or.inr (by omega)))⟩)
theorem c_X7_append {N : Nat} {T : Ty} {U X : Nat → Int} {n : Nat} {x : Int} {v : Ct} (hT : TT T) (hx : X 1 = (n : Int)) (hn : n < 60) (hxr : 33 ≤ x ∧ x ≤ 126) : Runs mX7_append 1 0 0 [vR 0, vI x] N T (sa (sa v 68 U) 67 X) (some (vI ((n + 1 : Nat) : Int))) N T (sa (sa v 68 (rs U n x)) 67 (rs X 1 ((n + 1 : Nat) : Int))) := by
  refine Runs.of (by decide) (Nat.le_of_ble_eq_true rfl) fun κ C => ?_
  refine M_iload_n (pc := 0) C dX7_append_0 rfl ?_
  refine M_bipush (pc := 1) C (by decide) dX7_append_1 ?_
  refine M_bipush (pc := 3) C (by decide) dX7_append_3 ?_
  refine A_cSv (pc := 5) C (c_X7_checkArgument hT (x := x) (a := 33) (b := 126) (by omega) (by omega) (by omega) (by omega)) yw_X7_checkArgument lk_X7_55 rfl dX7_append_5 rfl (Nat.le_of_ble_eq_true rfl) (by decide) ⟨Nat.le_refl _, Nat.le_refl _⟩ ?_
  refine M_aload_n (pc := 8) C dX7_append_8 rfl (by decide) ?_
  refine A_getR (pc := 9) C fl_X7_30 rfl (a := 0) (j := 67) rfl (tt_0 hT) rfl dX7_append_9 ?_
  refine A_cV (pc := 12) C (x := vI (Bi (decide (60 ≤ X 1)))) (a := 67) (c := 6) (c_X6_isFull hT (v := sa (sa v 68 U) 67 X)) yw_X6_isFull lk_X7_122 rfl (congrArg Prod.fst (tt_67 hT)) hc_6 rfl dX7_append_12 rfl (Nat.le_of_ble_eq_true rfl) (by decide) ⟨Nat.le_refl _, Nat.le_refl _⟩ ?_
  refine M_if_eq (pc := 15) C (tgt := 28) (Bi_i32 _) dX7_append_15 (by decide) (fun h_15 => ?_) (fun h_15 => ?_)
  · have b_15 := Bid_eq0 h_15
    refine M_aload_n (pc := 28) C dX7_append_28 rfl (by decide) ?_
    refine A_getR (pc := 29) C fl_X7_30 rfl (a := 0) (j := 67) rfl (tt_0 hT) rfl dX7_append_29 ?_
    refine M_iload_n (pc := 32) C dX7_append_32 rfl ?_
    refine A_cVv (pc := 33) C (a := 67) (c := 6) (c_X6_add hT (v := v) (U := U) (X := X) (n := n) (c := x) hx hn (by omega)) yw_X6_add lk_X7_128 rfl (congrArg Prod.fst (tt_67 hT)) hc_6 rfl dX7_append_33 rfl (Nat.le_of_ble_eq_true rfl) (by decide) ⟨Nat.le_refl _, Nat.le_refl _⟩ ?_
    refine M_aload_n (pc := 36) C dX7_append_36 rfl (by decide) ?_
    refine A_getR (pc := 37) C fl_X7_30 rfl (a := 0) (j := 67) rfl (tt_0 hT) rfl dX7_append_37 ?_
    refine A_cV (pc := 40) C (x := vI ((rs X 1 ((n + 1 : Nat) : Int)) 1)) (a := 67) (c := 6) (c_X6_length hT (v := sa (sa v 68 (rs U n x)) 67 (rs X 1 ((n + 1 : Nat) : Int)))) yw_X6_length lk_X7_131 rfl (congrArg Prod.fst (tt_67 hT)) hc_6 rfl dX7_append_40 rfl (Nat.le_of_ble_eq_true rfl) (by decide) ⟨Nat.le_refl _, Nat.le_refl _⟩ ?_
    refine M_rd (pc := 43) C 67 1 (fun (r_40_0 : i32 ((rs X 1 ((n + 1 : Nat) : Int)) 1)) => ?_)
    exact M_iret (pc := 43) C rfl dX7_append_43 (by rw [rs_eq]) rfl
  · have b_15 := Bid_ne0 h_15
    exfalso
    omega
theorem c_X7_undo {N : Nat} {T : Ty} {P : Nat → Int} {c : Int} {s : Nat} {v : Ct} (hT : TT T) (hHV : HVr v P (s + 1) c) : RunsP mX7_undo 2 0 0 [vR 0] N T v N T (fun r1 v1 => r1 = some (vI ((s : Nat) : Int)) ∧ DV v1 1 (fun x => P (207 * s + x)) c ∧ HVr v1 P s c ∧ fr v v1) := by
  have hs1 := hHV.1
  refine RunsP.of (by decide) (Nat.le_of_ble_eq_true rfl) fun κ C => ?_
  refine M_aload_n (pc := 0) C dX7_undo_0 rfl (by decide) ?_
  refine A_getR (pc := 1) C fl_X7_19 rfl (a := 0) (j := 10) rfl (tt_0 hT) rfl dX7_undo_1 ?_
  refine A_cV (pc := 4) C (x := vI (v 10 1)) (a := 10) (c := 2) (c_X2_held (v := v) hT) yw_X2_held lk_X7_161 rfl (congrArg Prod.fst (tt_10 hT)) hc_2 rfl dX7_undo_4 rfl (Nat.le_of_ble_eq_true rfl) (by decide) ⟨Nat.le_refl _, Nat.le_refl _⟩ ?_
  refine M_rd (pc := 7) C 10 1 (fun (r_4_0 : i32 (v 10 1)) => ?_)
  refine M_if_ne (pc := 7) C (tgt := 20) (by omega) dX7_undo_7 (by decide) (fun h_7 => ?_) (fun h_7 => ?_)
  · refine M_aload_n (pc := 20) C dX7_undo_20 rfl (by decide) ?_
    refine A_getR (pc := 21) C fl_X7_19 rfl (a := 0) (j := 10) rfl (tt_0 hT) rfl dX7_undo_21 ?_
    refine M_aload_n (pc := 24) C dX7_undo_24 rfl (by decide) ?_
    refine A_getR (pc := 25) C fl_X7_12 rfl (a := 0) (j := 1) rfl (tt_0 hT) rfl dX7_undo_25 ?_
    refine A_pV (pc := 28) C (a := 10) (c := 2) (c_X2_restoreR (v := v) (P := P) (c := c) (s := s) hT hHV) yw_X2_restore lk_X7_166 rfl (congrArg Prod.fst (tt_10 hT)) hc_2 rfl dX7_undo_28 rfl (Nat.le_of_ble_eq_true rfl) (by decide) ⟨Nat.le_refl _, Nat.le_refl _⟩ (fun r_28 v_28 p_28 => ?_)
    obtain ⟨rfl, hW_28, hH_28, hf_28⟩ := p_28
    refine M.to (pc := 31) (st2 := []) (v2 := v_28) ?_ rfl rfl rfl
    refine M_aload_n (pc := 31) C dX7_undo_31 rfl (by decide) ?_
    refine A_getR (pc := 32) C fl_X7_19 rfl (a := 0) (j := 10) rfl (tt_0 hT) rfl dX7_undo_32 ?_
    refine A_cV (pc := 35) C (x := vI (v_28 10 1)) (a := 10) (c := 2) (c_X2_held (v := v_28) hT) yw_X2_held lk_X7_161 rfl (congrArg Prod.fst (tt_10 hT)) hc_2 rfl dX7_undo_35 rfl (Nat.le_of_ble_eq_true rfl) (by decide) ⟨Nat.le_refl _, Nat.le_refl _⟩ ?_
    refine M_rd (pc := 38) C 10 1 (fun (r_35_0 : i32 (v_28 10 1)) => ?_)
    exact M_iretP (pc := 38) C rfl dX7_undo_38 ⟨by rw [hH_28.1], hW_28, hH_28, fun a ha => hf_28 a (Or.inr (by omega))⟩
  · exfalso
    omega
theorem c_X7_goBack {N : Nat} {T : Ty} {r P : Nat → Int} {c : Int} {s : Nat} {q g : Nat} {r2 : Nat → Int} {v : Ct} (hT : TT T) (hV : DV v 1 r c) (hHV : HVr v P s c) (hc : c < 1000000) (hq : q < 2) (hg : v 66 q = (g : Int)) (hgd : dsk T g) (hg96 : 96 ≤ g) (hVg : DV v g r2 c) : RunsP mX7_goBack 2 0 0 [vR 0, vI ((q : Nat) : Int)] N T v N T (fun r1 v1 => r1 = some (vI (filF r2)) ∧ DV v1 1 r2 c ∧ HVr v1 (svP P r s) (svN s) c ∧ fr v v1) := by
  refine RunsP.of (by decide) (Nat.le_of_ble_eq_true rfl) fun κ C => ?_
  refine M_iload_n (pc := 0) C dX7_goBack_0 rfl ?_
  refine M_iconst (pc := 1) C dX7_goBack_1 ?_
  refine M_iconst (pc := 2) C dX7_goBack_2 ?_
  refine A_cSv (pc := 3) C (c_X7_checkArgument hT (x := ((q : Nat) : Int)) (a := 0) (b := 1) (by omega) (by omega) (by omega) (by omega)) yw_X7_checkArgument lk_X7_55 rfl dX7_goBack_3 rfl (Nat.le_of_ble_eq_true rfl) (by decide) ⟨Nat.le_refl _, Nat.le_refl _⟩ ?_
  refine M_aload_n (pc := 6) C dX7_goBack_6 rfl (by decide) ?_
  refine A_getR (pc := 7) C fl_X7_23 rfl (a := 0) (j := 66) rfl (tt_0 hT) rfl dX7_goBack_7 ?_
  refine M_iload_n (pc := 10) C dX7_goBack_10 rfl ?_
  refine A_aald (pc := 11) C (a := 66) (q := q) rfl (tt_66 hT) (by decide) (by omega) (by omega) dX7_goBack_11 (fun (r_11 : i32 (v 66 q)) => ?_)
  refine M_ifnonnull (pc := 12) C (tgt := 25) (by omega) dX7_goBack_12 (by decide) (fun h_12 => ?_) (fun h_12 => ?_)
  · refine M_aload_n (pc := 25) C dX7_goBack_25 rfl (by decide) ?_
    refine A_getR (pc := 26) C fl_X7_19 rfl (a := 0) (j := 10) rfl (tt_0 hT) rfl dX7_goBack_26 ?_
    refine M_aload_n (pc := 29) C dX7_goBack_29 rfl (by decide) ?_
    refine A_getR (pc := 30) C fl_X7_12 rfl (a := 0) (j := 1) rfl (tt_0 hT) rfl dX7_goBack_30 ?_
    refine A_pV (pc := 33) C (a := 10) (c := 2) (c_X2_storeR (v := v) (r := r) (P := P) (c := c) (s := s) hT hHV hV) yw_X2_store lk_X7_59 rfl (congrArg Prod.fst (tt_10 hT)) hc_2 rfl dX7_goBack_33 rfl (Nat.le_of_ble_eq_true rfl) (by decide) ⟨Nat.le_refl _, Nat.le_refl _⟩ (fun r_33 v_33 p_33 => ?_)
    obtain ⟨rfl, hH_33, hf_33⟩ := p_33
    refine M.to (pc := 36) (st2 := []) (v2 := v_33) ?_ rfl rfl rfl
    have hV_33 : DV v_33 1 r c := hV.same (fun k hk => hf_33 _ (Or.inl (by omega))) (fun _ _ => rfl)
    refine M_aload_n (pc := 36) C dX7_goBack_36 rfl (by decide) ?_
    refine A_getR (pc := 37) C fl_X7_12 rfl (a := 0) (j := 1) rfl (tt_0 hT) rfl dX7_goBack_37 ?_
    refine M_aload_n (pc := 40) C dX7_goBack_40 rfl (by decide) ?_
    refine A_getR (pc := 41) C fl_X7_23 rfl (a := 0) (j := 66) rfl (tt_0 hT) rfl dX7_goBack_41 ?_
    refine M_iload_n (pc := 44) C dX7_goBack_44 rfl ?_
    refine A_aald (pc := 45) C (a := 66) (q := q) rfl (tt_66 hT) (by decide) (by omega) (by omega) dX7_goBack_45 (fun (r_45 : i32 (v_33 66 q)) => ?_)
    have hg2 : v_33 66 q = (g : Int) := by rw [hf_33 66 (Or.inr (by omega))]; exact hg
    refine M.to (st2 := [vR ((g : Nat) : Int), vR ((1 : Nat) : Int)]) ?_ rfl (by rw [hg2]; rfl) rfl
    refine A_cVv (pc := 46) C (a := 1) (c := 0) (c_X0_copyFrom (v := v_33) (a := 1) (b := g) hT (dsk_1 hT) hgd (Or.inl (by omega))) yw_X0_copyFrom lk_X7_153 rfl (congrArg Prod.fst (tt_1 hT)) hc_0 rfl dX7_goBack_46 rfl (Nat.le_of_ble_eq_true rfl) (by decide) ⟨Nat.le_refl _, Nat.le_refl _⟩ ?_
    refine M_aload_n (pc := 49) C dX7_goBack_49 rfl (by decide) ?_
    refine A_getR (pc := 50) C fl_X7_12 rfl (a := 0) (j := 1) rfl (tt_0 hT) rfl dX7_goBack_50 ?_
    refine A_cV (pc := 53) C (x := vI (sumN (fun f => if (cpd (v_33) 1 g 24 10 true) 5 f = -1 then 0 else 1) 10)) (a := 1) (c := 0) (c_X0_files (v := cpd (v_33) 1 g 24 10 true) hT) yw_X0_files lk_X7_156 rfl (congrArg Prod.fst (tt_1 hT)) hc_0 rfl dX7_goBack_53 rfl (Nat.le_of_ble_eq_true rfl) (by decide) ⟨Nat.le_refl _, Nat.le_refl _⟩ ?_
    have hVw : DV (cpd v_33 1 g 24 10 true) 1 r2 c := (hVg.same (v1 := v_33) (fun k hk => hf_33 _ (Or.inr (by omega))) (fun _ _ => rfl)).cpd (fun _ _ => rfl)
    exact M_iretP (pc := 56) C rfl dX7_goBack_56 ⟨by rw [← (hVw).1.fil], hVw, hH_33.same (fun a h1 h2 => by funext z; rw [cpd_o (by omega)]), fun a ha => (show cpd v_33 1 g 24 10 true a = v a by funext z; rw [cpd_o (by omega), hf_33 a (Or.inr (by omega))])⟩
  · exfalso
    omega
theorem c_X7_keep_o {N : Nat} {T : Ty} {r : Nat → Int} {c : Int} {q g : Nat} {v : Ct} (hT : TT T) (hV : DV v 1 r c) (hq : q < 2) (hg : v 66 q = (g : Int)) (hgd : dsk T g) (hg96 : 96 ≤ g) : Runs mX7_keep 1 0 0 [vR 0, vI ((q : Nat) : Int)] N T v (some (vI (filF r))) N T (cpd v g 1 24 10 true) := by
  have hH : DR (v 2) (v 3) (v 4) (v 5) (v 6) (v 7) (v 8) (v 9) r := hV.1
  have hC : CNT (v 1) (v 9) r c := hV.2
  have hD := hH.DI
  refine Runs.of (by decide) (Nat.le_of_ble_eq_true rfl) fun κ C => ?_
  refine M_iload_n (pc := 0) C dX7_keep_0 rfl ?_
  refine M_iconst (pc := 1) C dX7_keep_1 ?_
  refine M_iconst (pc := 2) C dX7_keep_2 ?_
  refine A_cSv (pc := 3) C (c_X7_checkArgument hT (x := ((q : Nat) : Int)) (a := 0) (b := 1) (by omega) (by omega) (by omega) (by omega)) yw_X7_checkArgument lk_X7_55 rfl dX7_keep_3 rfl (Nat.le_of_ble_eq_true rfl) (by decide) ⟨Nat.le_refl _, Nat.le_refl _⟩ ?_
  refine M_aload_n (pc := 6) C dX7_keep_6 rfl (by decide) ?_
  refine A_getR (pc := 7) C fl_X7_23 rfl (a := 0) (j := 66) rfl (tt_0 hT) rfl dX7_keep_7 ?_
  refine M_iload_n (pc := 10) C dX7_keep_10 rfl ?_
  refine A_aald (pc := 11) C (a := 66) (q := q) rfl (tt_66 hT) (by decide) (by omega) (by omega) dX7_keep_11 (fun (r_11 : i32 (v 66 q)) => ?_)
  refine M_ifnonnull (pc := 12) C (tgt := 28) (by omega) dX7_keep_12 (by decide) (fun h_12 => ?_) (fun h_12 => ?_)
  · refine M_aload_n (pc := 28) C dX7_keep_28 rfl (by decide) ?_
    refine A_getR (pc := 29) C fl_X7_23 rfl (a := 0) (j := 66) rfl (tt_0 hT) rfl dX7_keep_29 ?_
    refine M_iload_n (pc := 32) C dX7_keep_32 rfl ?_
    refine A_aald (pc := 33) C (a := 66) (q := q) rfl (tt_66 hT) (by decide) (by omega) (by omega) dX7_keep_33 (fun (r_33 : i32 (v 66 q)) => ?_)
    refine M.to (st2 := [vR ((g : Nat) : Int)]) ?_ rfl (by rw [hg]) rfl
    refine M_aload_n (pc := 34) C dX7_keep_34 rfl (by decide) ?_
    refine A_getR (pc := 35) C fl_X7_12 rfl (a := 0) (j := 1) rfl (tt_0 hT) rfl dX7_keep_35 ?_
    refine A_cVv (pc := 38) C (a := g) (c := 0) (c_X0_copyFrom (v := v) (a := g) (b := 1) hT hgd (dsk_1 hT) (Or.inr (by omega))) yw_X0_copyFrom lk_X7_153 rfl (congrArg Prod.fst hgd.1) hc_0 rfl dX7_keep_38 rfl (Nat.le_of_ble_eq_true rfl) (by decide) ⟨Nat.le_refl _, Nat.le_refl _⟩ ?_
    refine M_aload_n (pc := 41) C dX7_keep_41 rfl (by decide) ?_
    refine A_getR (pc := 42) C fl_X7_12 rfl (a := 0) (j := 1) rfl (tt_0 hT) rfl dX7_keep_42 ?_
    refine A_cV (pc := 45) C (x := vI (sumN (fun f => if (cpd v g 1 24 10 true) 5 f = -1 then 0 else 1) 10)) (a := 1) (c := 0) (c_X0_files (v := cpd v g 1 24 10 true) hT) yw_X0_files lk_X7_156 rfl (congrArg Prod.fst (tt_1 hT)) hc_0 rfl dX7_keep_45 rfl (Nat.le_of_ble_eq_true rfl) (by decide) ⟨Nat.le_refl _, Nat.le_refl _⟩ ?_
    exact M_iret (pc := 48) C rfl dX7_keep_48 (by rw [show cpd v g 1 24 10 true 5 = v 5 by funext z; rw [cpd_o (by omega)]]; rw [hH.fil]) rfl
  · exfalso
    omega
theorem c_X7_obey_43 {N : Nat} {T : Ty} {r : Nat → Int} {c : Int} {a b : Nat} {v : Ct} (hT : TT T) (hV : DV v 1 r c) (hc : c < 1000000) (hs : v 69 1 = 43) (ha : v 69 3 = (a : Int)) (ha2 : a ≤ 200) : RunsP mX7_obey 6 0 0 [vR 0] N T v N T (fun r1 v1 => r1 = some (vI (Bi (decide (doV r 43 a b ≠ -1)))) ∧ DV v1 1 (doR r 43 a b) (c + 1) ∧ oth v v1) := by
  have hdi := hV.doi (x := 43) (a := a) (b := b) (Or.inl rfl) ha2 (fun q => absurd rfl q) (fun q => by omega)
  have hdv : doV r 43 a b = crV r a := if_pos rfl
  have hdr : doR r 43 a b = crR r a := if_pos rfl
  rw [hdv] at hdi
  refine RunsP.of (by decide) (Nat.le_of_ble_eq_true rfl) fun κ C => ?_
  refine M_aload_n (pc := 0) C dX7_obey_0 rfl (by decide) ?_
  refine A_getR (pc := 1) C fl_X7_37 rfl (a := 0) (j := 69) rfl (tt_0 hT) rfl dX7_obey_1 ?_
  refine A_getI (pc := 4) C fl_X7_277 rfl (a := 69) rfl (tt_69 hT) dX7_obey_4 (fun (r_4 : i32 (v 69 1)) => ?_)
  refine M_bipush (pc := 7) C (by decide) dX7_obey_7 ?_
  refine M_icmp_ne (pc := 9) C (tgt := 36) (by omega) (by omega) dX7_obey_9 (by decide) (fun h_9 => ?_) (fun h_9 => ?_)
  · exfalso
    omega
  · refine M_aload_n (pc := 12) C dX7_obey_12 rfl (by decide) ?_
    refine A_getR (pc := 13) C fl_X7_12 rfl (a := 0) (j := 1) rfl (tt_0 hT) rfl dX7_obey_13 ?_
    refine M_aload_n (pc := 16) C dX7_obey_16 rfl (by decide) ?_
    refine A_getR (pc := 17) C fl_X7_37 rfl (a := 0) (j := 69) rfl (tt_0 hT) rfl dX7_obey_17 ?_
    refine A_getI (pc := 20) C fl_X7_280 rfl (a := 69) rfl (tt_69 hT) dX7_obey_20 (fun (r_20 : i32 (v 69 3)) => ?_)
    refine M.to (st2 := [vI ((a : Nat) : Int), vR 1]) ?_ rfl (by rw [ha]) rfl
    refine A_pV (pc := 23) C (a := 1) (c := 0) (c_X0_addFileR (v := v) (r := r) (c := c) hT hV hc (s := a) (by omega)) yw_X0_addFile lk_X7_63 rfl (congrArg Prod.fst (tt_1 hT)) hc_0 rfl dX7_obey_23 rfl (Nat.le_of_ble_eq_true rfl) (by decide) ⟨Nat.le_refl _, Nat.le_refl _⟩ (fun r_23 v_23 p_23 => ?_)
    obtain ⟨rfl, hW_23, ho_23⟩ := p_23
    refine M.to (pc := 26) (st2 := [vI (crV r a)]) (v2 := v_23) ?_ rfl rfl rfl
    refine M_iconst (pc := 26) C dX7_obey_26 ?_
    refine T_icmp_eq (pc := 27) C (by omega) (by omega) dX7_obey_27 dX7_obey_30 dX7_obey_31 dX7_obey_34 ?_
    exact M_zretP (pc := 35) C rfl (Bi_01 _) dX7_obey_35 ⟨by rw [hdv], by rw [hdr]; exact hW_23, ho_23⟩
theorem c_X7_obey_no {N : Nat} {T : Ty} {r : Nat → Int} {c : Int} {x : Int} {a b : Nat} {v : Ct} (hT : TT T) (hV : DV v 1 r c) (hc : c < 1000000) (hs : v 69 1 = x) (hx : x = 45 ∨ x = 60 ∨ x = 62) (hf : v 69 2 = (a : Int)) (ha : a < 10) (hno : ro r a 0 ≠ 1) : RunsP mX7_obey 6 0 0 [vR 0] N T v N T (fun r1 v1 => r1 = some (vI (Bi (decide (doV r x a b ≠ -1)))) ∧ DV v1 1 (doR r x a b) (c + 1) ∧ oth v v1) := by
  have hH : DR (v 2) (v 3) (v 4) (v 5) (v 6) (v 7) (v 8) (v 9) r := hV.1
  have hC : CNT (v 1) (v 9) r c := hV.2
  have hD := hH.DI
  have hz : v 5 a = -1 := (hH.1 a ha).ex.elim (fun q => q.1) (fun q => absurd q.2 hno)
  have hdv : doV r x a b = -1 := (if_neg (by omega)).trans (if_neg hno)
  have hdr : doR r x a b = r := (if_neg (by omega)).trans (if_neg hno)
  refine RunsP.of (by decide) (Nat.le_of_ble_eq_true rfl) fun κ C => ?_
  refine M_aload_n (pc := 0) C dX7_obey_0 rfl (by decide) ?_
  refine A_getR (pc := 1) C fl_X7_37 rfl (a := 0) (j := 69) rfl (tt_0 hT) rfl dX7_obey_1 ?_
  refine A_getI (pc := 4) C fl_X7_277 rfl (a := 69) rfl (tt_69 hT) dX7_obey_4 (fun (r_4 : i32 (v 69 1)) => ?_)
  refine M_bipush (pc := 7) C (by decide) dX7_obey_7 ?_
  refine M_icmp_ne (pc := 9) C (tgt := 36) (by omega) (by omega) dX7_obey_9 (by decide) (fun h_9 => ?_) (fun h_9 => ?_)
  · refine M_aload_n (pc := 36) C dX7_obey_36 rfl (by decide) ?_
    refine A_getR (pc := 37) C fl_X7_12 rfl (a := 0) (j := 1) rfl (tt_0 hT) rfl dX7_obey_37 ?_
    refine M_aload_n (pc := 40) C dX7_obey_40 rfl (by decide) ?_
    refine A_getR (pc := 41) C fl_X7_37 rfl (a := 0) (j := 69) rfl (tt_0 hT) rfl dX7_obey_41 ?_
    refine A_getI (pc := 44) C fl_X7_283 rfl (a := 69) rfl (tt_69 hT) dX7_obey_44 (fun (r_44 : i32 (v 69 2)) => ?_)
    refine M.to (st2 := [vI ((a : Nat) : Int), vR 1]) ?_ rfl (by rw [hf]) rfl
    refine A_cV (pc := 47) C (x := vI (Bi (decide (v 5 a ≠ -1)))) (a := 1) (c := 0) (c_X0_exists_n (v := v) hT (f := a) (by omega)) yw_X0_exists lk_X7_225 rfl (congrArg Prod.fst (tt_1 hT)) hc_0 rfl dX7_obey_47 rfl (Nat.le_of_ble_eq_true rfl) (by decide) ⟨Nat.le_refl _, Nat.le_refl _⟩ ?_
    refine M_if_ne (pc := 50) C (tgt := 55) (Bi_i32 _) dX7_obey_50 (by decide) (fun h_50 => ?_) (fun h_50 => ?_)
    · have b_50 := Bid_ne0 h_50
      exact absurd hz b_50
    · have b_50 := Bid_eq0 h_50
      refine M_iconst (pc := 53) C dX7_obey_53 ?_
      exact M_zretP (pc := 54) C rfl (Or.inl rfl) dX7_obey_54 ⟨by rw [hdv]; rfl, by rw [hdr]; exact hV.mono (by omega), fun _ _ => rfl⟩
  · exfalso
    omega
theorem c_X7_obey_62 {N : Nat} {T : Ty} {r : Nat → Int} {c : Int} {a b : Nat} {v : Ct} (hT : TT T) (hV : DV v 1 r c) (hc : c < 1000000) (hs : v 69 1 = 62) (hf : v 69 2 = (a : Int)) (ha : a < 10) (hfi : ro r a 0 = 1) (hb : v 69 3 = (b : Int)) (hb2 : 1 ≤ b ∧ b ≤ 200) : RunsP mX7_obey 6 0 0 [vR 0] N T v N T (fun r1 v1 => r1 = some (vI (Bi (decide (doV r 62 a b ≠ -1)))) ∧ DV v1 1 (doR r 62 a b) (c + 1) ∧ oth v v1) := by
  have hH : DR (v 2) (v 3) (v 4) (v 5) (v 6) (v 7) (v 8) (v 9) r := hV.1
  have hC : CNT (v 1) (v 9) r c := hV.2
  have hD := hH.DI
  have hz : v 5 a ≠ -1 := hH.zf ha hfi
  have hdi := hV.doi (x := 62) (a := a) (b := b) (by decide) (by omega) (fun _ => ha) (fun q => by omega)
  have hdv : doV r 62 a b = opV (gwO r a b) := (if_neg (by decide)).trans ((if_pos hfi).trans ((if_neg (by decide)).trans (if_pos rfl)))
  have hdr : doR r 62 a b = opR r (gwO r a b) := (if_neg (by decide)).trans ((if_pos hfi).trans ((if_neg (by decide)).trans (if_pos rfl)))
  rw [hdv] at hdi
  refine RunsP.of (by decide) (Nat.le_of_ble_eq_true rfl) fun κ C => ?_
  refine M_aload_n (pc := 0) C dX7_obey_0 rfl (by decide) ?_
  refine A_getR (pc := 1) C fl_X7_37 rfl (a := 0) (j := 69) rfl (tt_0 hT) rfl dX7_obey_1 ?_
  refine A_getI (pc := 4) C fl_X7_277 rfl (a := 69) rfl (tt_69 hT) dX7_obey_4 (fun (r_4 : i32 (v 69 1)) => ?_)
  refine M_bipush (pc := 7) C (by decide) dX7_obey_7 ?_
  refine M_icmp_ne (pc := 9) C (tgt := 36) (by omega) (by omega) dX7_obey_9 (by decide) (fun h_9 => ?_) (fun h_9 => ?_)
  · refine M_aload_n (pc := 36) C dX7_obey_36 rfl (by decide) ?_
    refine A_getR (pc := 37) C fl_X7_12 rfl (a := 0) (j := 1) rfl (tt_0 hT) rfl dX7_obey_37 ?_
    refine M_aload_n (pc := 40) C dX7_obey_40 rfl (by decide) ?_
    refine A_getR (pc := 41) C fl_X7_37 rfl (a := 0) (j := 69) rfl (tt_0 hT) rfl dX7_obey_41 ?_
    refine A_getI (pc := 44) C fl_X7_283 rfl (a := 69) rfl (tt_69 hT) dX7_obey_44 (fun (r_44 : i32 (v 69 2)) => ?_)
    refine M.to (st2 := [vI ((a : Nat) : Int), vR 1]) ?_ rfl (by rw [hf]) rfl
    refine A_cV (pc := 47) C (x := vI (Bi (decide (v 5 a ≠ -1)))) (a := 1) (c := 0) (c_X0_exists_n (v := v) hT (f := a) (by omega)) yw_X0_exists lk_X7_225 rfl (congrArg Prod.fst (tt_1 hT)) hc_0 rfl dX7_obey_47 rfl (Nat.le_of_ble_eq_true rfl) (by decide) ⟨Nat.le_refl _, Nat.le_refl _⟩ ?_
    refine M_if_ne (pc := 50) C (tgt := 55) (Bi_i32 _) dX7_obey_50 (by decide) (fun h_50 => ?_) (fun h_50 => ?_)
    · have b_50 := Bid_ne0 h_50
      refine M_aload_n (pc := 55) C dX7_obey_55 rfl (by decide) ?_
      refine A_getR (pc := 56) C fl_X7_37 rfl (a := 0) (j := 69) rfl (tt_0 hT) rfl dX7_obey_56 ?_
      refine A_getI (pc := 59) C fl_X7_277 rfl (a := 69) rfl (tt_69 hT) dX7_obey_59 (fun (r_59 : i32 (v 69 1)) => ?_)
      refine M_bipush (pc := 62) C (by decide) dX7_obey_62 ?_
      refine M_icmp_ne (pc := 64) C (tgt := 98) (by omega) (by omega) dX7_obey_64 (by decide) (fun h_64 => ?_) (fun h_64 => ?_)
      · exfalso
        omega
      · refine M_aload_n (pc := 67) C dX7_obey_67 rfl (by decide) ?_
        refine A_getR (pc := 68) C fl_X7_12 rfl (a := 0) (j := 1) rfl (tt_0 hT) rfl dX7_obey_68 ?_
        refine M_aload_n (pc := 71) C dX7_obey_71 rfl (by decide) ?_
        refine A_getR (pc := 72) C fl_X7_37 rfl (a := 0) (j := 69) rfl (tt_0 hT) rfl dX7_obey_72 ?_
        refine A_getI (pc := 75) C fl_X7_283 rfl (a := 69) rfl (tt_69 hT) dX7_obey_75 (fun (r_75 : i32 (v 69 2)) => ?_)
        refine M_aload_n (pc := 78) C dX7_obey_78 rfl (by decide) ?_
        refine A_getR (pc := 79) C fl_X7_37 rfl (a := 0) (j := 69) rfl (tt_0 hT) rfl dX7_obey_79 ?_
        refine A_getI (pc := 82) C fl_X7_280 rfl (a := 69) rfl (tt_69 hT) dX7_obey_82 (fun (r_82 : i32 (v 69 3)) => ?_)
        refine M.to (st2 := [vI ((b : Nat) : Int), vI ((a : Nat) : Int), vR 1]) ?_ rfl (by rw [hb, hf]) rfl
        refine A_pV (pc := 85) C (a := 1) (c := 0) (c_X0_extendR (v := v) (r := r) (c := c) hT hV hc (f := a) (n := b) (by omega) hfi (by omega)) yw_X0_extend lk_X7_71 rfl (congrArg Prod.fst (tt_1 hT)) hc_0 rfl dX7_obey_85 rfl (Nat.le_of_ble_eq_true rfl) (by decide) ⟨Nat.le_refl _, Nat.le_refl _⟩ (fun r_85 v_85 p_85 => ?_)
        obtain ⟨rfl, hW_85, ho_85⟩ := p_85
        refine M.to (pc := 88) (st2 := [vI (opV (gwO r a b))]) (v2 := v_85) ?_ rfl rfl rfl
        refine M_iconst (pc := 88) C dX7_obey_88 ?_
        refine T_icmp_eq (pc := 89) C (by omega) (by omega) dX7_obey_89 dX7_obey_92 dX7_obey_93 dX7_obey_96 ?_
        exact M_zretP (pc := 97) C rfl (Bi_01 _) dX7_obey_97 ⟨by rw [hdv], by rw [hdr]; exact hW_85, ho_85⟩
    · have b_50 := Bid_eq0 h_50
      exact absurd hz b_50
  · exfalso
    omega
theorem c_X7_obey_60 {N : Nat} {T : Ty} {r : Nat → Int} {c : Int} {a b : Nat} {v : Ct} (hT : TT T) (hV : DV v 1 r c) (hc : c < 1000000) (hs : v 69 1 = 60) (hf : v 69 2 = (a : Int)) (ha : a < 10) (hfi : ro r a 0 = 1) (hb : v 69 3 = (b : Int)) (hb2 : 1 ≤ b ∧ b ≤ 200) : RunsP mX7_obey 6 0 0 [vR 0] N T v N T (fun r1 v1 => r1 = some (vI (Bi (decide (doV r 60 a b ≠ -1)))) ∧ DV v1 1 (doR r 60 a b) (c + 1) ∧ oth v v1) := by
  have hH : DR (v 2) (v 3) (v 4) (v 5) (v 6) (v 7) (v 8) (v 9) r := hV.1
  have hC : CNT (v 1) (v 9) r c := hV.2
  have hD := hH.DI
  have hz : v 5 a ≠ -1 := hH.zf ha hfi
  have hdi := hV.doi (x := 60) (a := a) (b := b) (by decide) (by omega) (fun _ => ha) (fun q => by omega)
  have hdv : doV r 60 a b = opV (cuO r a b) := (if_neg (by decide)).trans ((if_pos hfi).trans ((if_neg (by decide)).trans (if_neg (by decide))))
  have hdr : doR r 60 a b = opR r (cuO r a b) := (if_neg (by decide)).trans ((if_pos hfi).trans ((if_neg (by decide)).trans (if_neg (by decide))))
  rw [hdv] at hdi
  refine RunsP.of (by decide) (Nat.le_of_ble_eq_true rfl) fun κ C => ?_
  refine M_aload_n (pc := 0) C dX7_obey_0 rfl (by decide) ?_
  refine A_getR (pc := 1) C fl_X7_37 rfl (a := 0) (j := 69) rfl (tt_0 hT) rfl dX7_obey_1 ?_
  refine A_getI (pc := 4) C fl_X7_277 rfl (a := 69) rfl (tt_69 hT) dX7_obey_4 (fun (r_4 : i32 (v 69 1)) => ?_)
  refine M_bipush (pc := 7) C (by decide) dX7_obey_7 ?_
  refine M_icmp_ne (pc := 9) C (tgt := 36) (by omega) (by omega) dX7_obey_9 (by decide) (fun h_9 => ?_) (fun h_9 => ?_)
  · refine M_aload_n (pc := 36) C dX7_obey_36 rfl (by decide) ?_
    refine A_getR (pc := 37) C fl_X7_12 rfl (a := 0) (j := 1) rfl (tt_0 hT) rfl dX7_obey_37 ?_
    refine M_aload_n (pc := 40) C dX7_obey_40 rfl (by decide) ?_
    refine A_getR (pc := 41) C fl_X7_37 rfl (a := 0) (j := 69) rfl (tt_0 hT) rfl dX7_obey_41 ?_
    refine A_getI (pc := 44) C fl_X7_283 rfl (a := 69) rfl (tt_69 hT) dX7_obey_44 (fun (r_44 : i32 (v 69 2)) => ?_)
    refine M.to (st2 := [vI ((a : Nat) : Int), vR 1]) ?_ rfl (by rw [hf]) rfl
    refine A_cV (pc := 47) C (x := vI (Bi (decide (v 5 a ≠ -1)))) (a := 1) (c := 0) (c_X0_exists_n (v := v) hT (f := a) (by omega)) yw_X0_exists lk_X7_225 rfl (congrArg Prod.fst (tt_1 hT)) hc_0 rfl dX7_obey_47 rfl (Nat.le_of_ble_eq_true rfl) (by decide) ⟨Nat.le_refl _, Nat.le_refl _⟩ ?_
    refine M_if_ne (pc := 50) C (tgt := 55) (Bi_i32 _) dX7_obey_50 (by decide) (fun h_50 => ?_) (fun h_50 => ?_)
    · have b_50 := Bid_ne0 h_50
      refine M_aload_n (pc := 55) C dX7_obey_55 rfl (by decide) ?_
      refine A_getR (pc := 56) C fl_X7_37 rfl (a := 0) (j := 69) rfl (tt_0 hT) rfl dX7_obey_56 ?_
      refine A_getI (pc := 59) C fl_X7_277 rfl (a := 69) rfl (tt_69 hT) dX7_obey_59 (fun (r_59 : i32 (v 69 1)) => ?_)
      refine M_bipush (pc := 62) C (by decide) dX7_obey_62 ?_
      refine M_icmp_ne (pc := 64) C (tgt := 98) (by omega) (by omega) dX7_obey_64 (by decide) (fun h_64 => ?_) (fun h_64 => ?_)
      · refine M_aload_n (pc := 98) C dX7_obey_98 rfl (by decide) ?_
        refine A_getR (pc := 99) C fl_X7_37 rfl (a := 0) (j := 69) rfl (tt_0 hT) rfl dX7_obey_99 ?_
        refine A_getI (pc := 102) C fl_X7_277 rfl (a := 69) rfl (tt_69 hT) dX7_obey_102 (fun (r_102 : i32 (v 69 1)) => ?_)
        refine M_bipush (pc := 105) C (by decide) dX7_obey_105 ?_
        refine M_icmp_ne (pc := 107) C (tgt := 141) (by omega) (by omega) dX7_obey_107 (by decide) (fun h_107 => ?_) (fun h_107 => ?_)
        · exfalso
          omega
        · refine M_aload_n (pc := 110) C dX7_obey_110 rfl (by decide) ?_
          refine A_getR (pc := 111) C fl_X7_12 rfl (a := 0) (j := 1) rfl (tt_0 hT) rfl dX7_obey_111 ?_
          refine M_aload_n (pc := 114) C dX7_obey_114 rfl (by decide) ?_
          refine A_getR (pc := 115) C fl_X7_37 rfl (a := 0) (j := 69) rfl (tt_0 hT) rfl dX7_obey_115 ?_
          refine A_getI (pc := 118) C fl_X7_283 rfl (a := 69) rfl (tt_69 hT) dX7_obey_118 (fun (r_118 : i32 (v 69 2)) => ?_)
          refine M_aload_n (pc := 121) C dX7_obey_121 rfl (by decide) ?_
          refine A_getR (pc := 122) C fl_X7_37 rfl (a := 0) (j := 69) rfl (tt_0 hT) rfl dX7_obey_122 ?_
          refine A_getI (pc := 125) C fl_X7_280 rfl (a := 69) rfl (tt_69 hT) dX7_obey_125 (fun (r_125 : i32 (v 69 3)) => ?_)
          refine M.to (st2 := [vI ((b : Nat) : Int), vI ((a : Nat) : Int), vR 1]) ?_ rfl (by rw [hb, hf]) rfl
          refine A_pV (pc := 128) C (a := 1) (c := 0) (c_X0_shortenR (v := v) (r := r) (c := c) hT hV hc (f := a) (n := b) (by omega) hfi (by omega)) yw_X0_shorten lk_X7_75 rfl (congrArg Prod.fst (tt_1 hT)) hc_0 rfl dX7_obey_128 rfl (Nat.le_of_ble_eq_true rfl) (by decide) ⟨Nat.le_refl _, Nat.le_refl _⟩ (fun r_128 v_128 p_128 => ?_)
          obtain ⟨rfl, hW_128, ho_128⟩ := p_128
          refine M.to (pc := 131) (st2 := [vI (opV (cuO r a b))]) (v2 := v_128) ?_ rfl rfl rfl
          refine M_iconst (pc := 131) C dX7_obey_131 ?_
          refine T_icmp_eq (pc := 132) C (by omega) (by omega) dX7_obey_132 dX7_obey_135 dX7_obey_136 dX7_obey_139 ?_
          exact M_zretP (pc := 140) C rfl (Bi_01 _) dX7_obey_140 ⟨by rw [hdv], by rw [hdr]; exact hW_128, ho_128⟩
      · exfalso
        omega
    · have b_50 := Bid_eq0 h_50
      exact absurd hz b_50
  · exfalso
    omega
theorem c_X7_obey_45 {N : Nat} {T : Ty} {r : Nat → Int} {c : Int} {a b : Nat} {v : Ct} (hT : TT T) (hV : DV v 1 r c) (hc : c < 1000000) (hs : v 69 1 = 45) (hf : v 69 2 = (a : Int)) (ha : a < 10) (hfi : ro r a 0 = 1) : RunsP mX7_obey 6 0 0 [vR 0] N T v N T (fun r1 v1 => r1 = some (vI (Bi (decide (doV r 45 a b ≠ -1)))) ∧ DV v1 1 (doR r 45 a b) (c + 1) ∧ oth v v1) := by
  have hH : DR (v 2) (v 3) (v 4) (v 5) (v 6) (v 7) (v 8) (v 9) r := hV.1
  have hC : CNT (v 1) (v 9) r c := hV.2
  have hD := hH.DI
  have hz : v 5 a ≠ -1 := hH.zf ha hfi
  have hdi := hV.doi (x := 45) (a := a) (b := b) (by decide) (by omega) (fun _ => ha) (fun q => by omega)
  have hdv : doV r 45 a b = dlV r a := (if_neg (by decide)).trans ((if_pos hfi).trans (if_pos rfl))
  have hdr : doR r 45 a b = dlR r a := (if_neg (by decide)).trans ((if_pos hfi).trans (if_pos rfl))
  rw [hdv] at hdi
  have hdl : dlV r a ≠ -1 := hV.1.dlp ha hz
  refine RunsP.of (by decide) (Nat.le_of_ble_eq_true rfl) fun κ C => ?_
  refine M_aload_n (pc := 0) C dX7_obey_0 rfl (by decide) ?_
  refine A_getR (pc := 1) C fl_X7_37 rfl (a := 0) (j := 69) rfl (tt_0 hT) rfl dX7_obey_1 ?_
  refine A_getI (pc := 4) C fl_X7_277 rfl (a := 69) rfl (tt_69 hT) dX7_obey_4 (fun (r_4 : i32 (v 69 1)) => ?_)
  refine M_bipush (pc := 7) C (by decide) dX7_obey_7 ?_
  refine M_icmp_ne (pc := 9) C (tgt := 36) (by omega) (by omega) dX7_obey_9 (by decide) (fun h_9 => ?_) (fun h_9 => ?_)
  · refine M_aload_n (pc := 36) C dX7_obey_36 rfl (by decide) ?_
    refine A_getR (pc := 37) C fl_X7_12 rfl (a := 0) (j := 1) rfl (tt_0 hT) rfl dX7_obey_37 ?_
    refine M_aload_n (pc := 40) C dX7_obey_40 rfl (by decide) ?_
    refine A_getR (pc := 41) C fl_X7_37 rfl (a := 0) (j := 69) rfl (tt_0 hT) rfl dX7_obey_41 ?_
    refine A_getI (pc := 44) C fl_X7_283 rfl (a := 69) rfl (tt_69 hT) dX7_obey_44 (fun (r_44 : i32 (v 69 2)) => ?_)
    refine M.to (st2 := [vI ((a : Nat) : Int), vR 1]) ?_ rfl (by rw [hf]) rfl
    refine A_cV (pc := 47) C (x := vI (Bi (decide (v 5 a ≠ -1)))) (a := 1) (c := 0) (c_X0_exists_n (v := v) hT (f := a) (by omega)) yw_X0_exists lk_X7_225 rfl (congrArg Prod.fst (tt_1 hT)) hc_0 rfl dX7_obey_47 rfl (Nat.le_of_ble_eq_true rfl) (by decide) ⟨Nat.le_refl _, Nat.le_refl _⟩ ?_
    refine M_if_ne (pc := 50) C (tgt := 55) (Bi_i32 _) dX7_obey_50 (by decide) (fun h_50 => ?_) (fun h_50 => ?_)
    · have b_50 := Bid_ne0 h_50
      refine M_aload_n (pc := 55) C dX7_obey_55 rfl (by decide) ?_
      refine A_getR (pc := 56) C fl_X7_37 rfl (a := 0) (j := 69) rfl (tt_0 hT) rfl dX7_obey_56 ?_
      refine A_getI (pc := 59) C fl_X7_277 rfl (a := 69) rfl (tt_69 hT) dX7_obey_59 (fun (r_59 : i32 (v 69 1)) => ?_)
      refine M_bipush (pc := 62) C (by decide) dX7_obey_62 ?_
      refine M_icmp_ne (pc := 64) C (tgt := 98) (by omega) (by omega) dX7_obey_64 (by decide) (fun h_64 => ?_) (fun h_64 => ?_)
      · refine M_aload_n (pc := 98) C dX7_obey_98 rfl (by decide) ?_
        refine A_getR (pc := 99) C fl_X7_37 rfl (a := 0) (j := 69) rfl (tt_0 hT) rfl dX7_obey_99 ?_
        refine A_getI (pc := 102) C fl_X7_277 rfl (a := 69) rfl (tt_69 hT) dX7_obey_102 (fun (r_102 : i32 (v 69 1)) => ?_)
        refine M_bipush (pc := 105) C (by decide) dX7_obey_105 ?_
        refine M_icmp_ne (pc := 107) C (tgt := 141) (by omega) (by omega) dX7_obey_107 (by decide) (fun h_107 => ?_) (fun h_107 => ?_)
        · refine M_aload_n (pc := 141) C dX7_obey_141 rfl (by decide) ?_
          refine A_getR (pc := 142) C fl_X7_12 rfl (a := 0) (j := 1) rfl (tt_0 hT) rfl dX7_obey_142 ?_
          refine M_aload_n (pc := 145) C dX7_obey_145 rfl (by decide) ?_
          refine A_getR (pc := 146) C fl_X7_37 rfl (a := 0) (j := 69) rfl (tt_0 hT) rfl dX7_obey_146 ?_
          refine A_getI (pc := 149) C fl_X7_283 rfl (a := 69) rfl (tt_69 hT) dX7_obey_149 (fun (r_149 : i32 (v 69 2)) => ?_)
          refine M.to (st2 := [vI ((a : Nat) : Int), vR 1]) ?_ rfl (by rw [hf]) rfl
          refine A_pV (pc := 152) C (a := 1) (c := 0) (c_X0_removeFileR (v := v) (r := r) (c := c) hT hV hc (f := a) (by omega) hfi) yw_X0_removeFile lk_X7_78 rfl (congrArg Prod.fst (tt_1 hT)) hc_0 rfl dX7_obey_152 rfl (Nat.le_of_ble_eq_true rfl) (by decide) ⟨Nat.le_refl _, Nat.le_refl _⟩ (fun r_152 v_152 p_152 => ?_)
          obtain ⟨rfl, hW_152, ho_152⟩ := p_152
          refine M.to (pc := 155) (st2 := [vI (dlV r a)]) (v2 := v_152) ?_ rfl rfl rfl
          refine M_pop (pc := 155) C rfl dX7_obey_155 ?_
          refine M_iconst (pc := 156) C dX7_obey_156 ?_
          exact M_zretP (pc := 157) C rfl (Or.inr rfl) dX7_obey_157 ⟨by rw [hdv, decide_eq_true hdl]; rfl, by rw [hdr]; exact hW_152, ho_152⟩
        · exfalso
          omega
      · exfalso
        omega
    · have b_50 := Bid_eq0 h_50
      exact absurd hz b_50
  · exfalso
    omega
