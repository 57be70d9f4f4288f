/-! a state kept in a slot that was empty: a new disk -/
theorem TT.dT {T : Ty} (h : TT T) {N : Nat} (hN : 96 ≤ N) : TT (dT T N) := fun i t hi => by
  have h96 : i < 96 := (List.getElem?_eq_some_iff.mp hi).1
  exact (dT_o (Or.inl (by omega))).trans (h i t hi)
theorem dsk_dT {T : Ty} {a : Nat} : dsk (dT T a) a := by
  have h1 : ∀ k, 1 ≤ k → k ≤ 3 → CTailBlocksLaw_law_r2298_19f52e.dT T a (a + k) = (1, 24, lkN) := fun k q1 q2 => by
    unfold CTailBlocksLaw_law_r2298_19f52e.dT
    rw [if_neg (by omega), if_pos (by omega)]
  have h2 : ∀ k, 4 ≤ k → k ≤ 8 → CTailBlocksLaw_law_r2298_19f52e.dT T a (a + k) = (1, 10, lkN) := fun k q1 q2 => by
    unfold CTailBlocksLaw_law_r2298_19f52e.dT
    rw [if_neg (by omega), if_neg (by omega), if_pos (by omega)]
  exact ⟨dT_a, h1 1 (by decide) (by decide), h1 2 (by decide) (by decide), h1 3 (by decide) (by decide), h2 4 (by decide) (by decide), h2 5 (by decide) (by decide), h2 6 (by decide) (by decide), h2 7 (by decide) (by decide), h2 8 (by decide) (by decide)⟩
theorem dsk.dT {T : Ty} {N g : Nat} (h : dsk T g) (hg : g + 9 ≤ N) : dsk (dT T N) g := by
  obtain ⟨h0, h1, h2, h3, h4, h5, h6, h7, h8⟩ := h
  exact ⟨(dT_o (Or.inl (by omega))).trans h0, (dT_o (Or.inl (by omega))).trans h1, (dT_o (Or.inl (by omega))).trans h2, (dT_o (Or.inl (by omega))).trans h3, (dT_o (Or.inl (by omega))).trans h4, (dT_o (Or.inl (by omega))).trans h5, (dT_o (Or.inl (by omega))).trans h6, (dT_o (Or.inl (by omega))).trans h7, (dT_o (Or.inl (by omega))).trans h8⟩
theorem c_X7_keep_n {N : Nat} {T : Ty} {r : Nat → Int} {c : Int} {q : Nat} {v : Ct} (hT : TT T) (hV : DV v 1 r c) (hq : q < 2) (hg : v 66 q = -1) (hN : 96 ≤ N) (hN2 : N < 1000000000) : RunsP mX7_keep 2 9 133 [vR 0, vI ((q : Nat) : Int)] N T v (N + 9) (dT T N) (fun r1 v1 => r1 = some (vI (filF r)) ∧ DV v1 N r c ∧ v1 66 q = (N : Int) ∧ (∀ z, z ≠ q → v1 66 z = v 66 z) ∧ ∀ x, x ≠ 66 → x < N → v1 x = v x) := by
  have hH : DR (v 2) (v 3) (v 4) (v 5) (v 6) (v 7) (v 8) (v 9) r := hV.1
  have hT2 := hT.dT hN
  have hgd : dsk (dT T N) N := dsk_dT
  refine RunsP.of (by decide) (Nat.le_of_ble_eq_true rfl) fun κ C => ?_
  refine M_iload_n (pc := 0) C dX7_keep_0 rfl ?_
  refine M_iconst (pc := 1) C dX7_keep_1 ?_
  refine M_iconst (pc := 2) C dX7_keep_2 ?_
  refine A_cSv (pc := 3) C (c_X7_checkArgument hT (x := ((q : Nat) : Int)) (a := 0) (b := 1) (by omega) (by omega) (by omega) (by omega)) yw_X7_checkArgument lk_X7_55 rfl dX7_keep_3 rfl (Nat.le_of_ble_eq_true rfl) (by decide) ⟨by decide, by decide⟩ ?_
  refine M_aload_n (pc := 6) C dX7_keep_6 rfl (by decide) ?_
  refine A_getR (pc := 7) C fl_X7_23 rfl (a := 0) (j := 66) rfl (tt_0 hT) rfl dX7_keep_7 ?_
  refine M_iload_n (pc := 10) C dX7_keep_10 rfl ?_
  refine A_aald (pc := 11) C (a := 66) (q := q) rfl (tt_66 hT) (by decide) (by omega) (by omega) dX7_keep_11 (fun (r_11 : i32 (v 66 q)) => ?_)
  refine M_ifnonnull (pc := 12) C (tgt := 28) (by omega) dX7_keep_12 (by decide) (fun h_12 => ?_) (fun h_12 => ?_)
  · exfalso
    omega
  · refine M_aload_n (pc := 15) C dX7_keep_15 rfl (by decide) ?_
    refine A_getR (pc := 16) C fl_X7_23 rfl (a := 0) (j := 66) rfl (tt_0 hT) rfl dX7_keep_16 ?_
    refine M_iload_n (pc := 19) C dX7_keep_19 rfl ?_
    refine M_new (pc := 20) C cf_0 (GW_t (i := 27) (by decide +kernel) rfl) (GW_t (i := 28) (by decide +kernel) rfl) (GW_t (i := 2) (by decide +kernel) rfl) ⟨by decide, by decide⟩ hdv_0 dX7_keep_20 ?_
    refine M_dup (pc := 23) C rfl dX7_keep_23 ?_
    refine M_callI (pc := 24) C (c_X0_init (a := N) newT_n) yw_X0_init lk_X7_11 (by omega) rfl dX7_keep_24 rfl (Nat.le_of_ble_eq_true rfl) (by decide) ⟨by decide, by decide⟩ (fun r v2 h => h.1) (fun v2 p2 => ?_)
    obtain ⟨-, e1, -⟩ := p2
    refine M.toN (k2 := 9) (n2 := 133) (N2 := N + 9) (T2 := dT T N) ?_ rfl dT_new rfl rfl
    have e0 : ∀ x, x < N → v2 x = v x := fun x hx => (e1 x (Or.inl hx)).trans (newV_o (by omega))
    refine A_aast (pc := 27) C (a := 66) (q := q) (g := N) rfl (tt_66 hT2) (by decide) rfl (by omega) rfl dT_a (by omega) dX7_keep_27 ?_
    refine M_aload_n (pc := 28) C dX7_keep_28 rfl (by decide) ?_
    refine A_getR (pc := 29) C fl_X7_23 rfl (a := 0) (j := 66) rfl (tt_0 hT2) rfl dX7_keep_29 ?_
    refine M_iload_n (pc := 32) C dX7_keep_32 rfl ?_
    refine A_aald (pc := 33) C (a := 66) (q := q) rfl (tt_66 hT2) (by decide) (by omega) (by omega) dX7_keep_33 (fun r_33 => ?_)
    refine M.to (st2 := [vR ((N : Nat) : Int)]) ?_ rfl (by rw [up_eq]) rfl
    refine M_aload_n (pc := 34) C dX7_keep_34 rfl (by decide) ?_
    refine A_getR (pc := 35) C fl_X7_12 rfl (a := 0) (j := 1) rfl (tt_0 hT2) rfl dX7_keep_35 ?_
    refine A_cVv (pc := 38) C (a := N) (c := 0) (c_X0_copyFrom (a := N) (b := 1) hT2 hgd (dsk_1 hT2) (Or.inr (by omega))) yw_X0_copyFrom lk_X7_153 rfl (congrArg Prod.fst hgd.1) hc_0 rfl dX7_keep_38 rfl (Nat.le_of_ble_eq_true rfl) (by decide) ⟨by decide, by decide⟩ ?_
    refine M_aload_n (pc := 41) C dX7_keep_41 rfl (by decide) ?_
    refine A_getR (pc := 42) C fl_X7_12 rfl (a := 0) (j := 1) rfl (tt_0 hT2) rfl dX7_keep_42 ?_
    have k5 : ∀ x, x < N → x ≠ 66 → cpd (up v2 66 q ((N : Nat) : Int)) N 1 24 10 true x = v x := fun x hx h66 => by
      funext z
      rw [cpd_o (Or.inl hx), up_ne h66, e0 x hx]
    refine A_cV (pc := 45) C (x := vI (sumN (fun f => if (cpd (up v2 66 q ((N : Nat) : Int)) N 1 24 10 true) 5 f = -1 then 0 else 1) 10)) (a := 1) (c := 0) (c_X0_files (v := cpd (up v2 66 q ((N : Nat) : Int)) N 1 24 10 true) hT2) yw_X0_files lk_X7_156 rfl (congrArg Prod.fst (tt_1 hT2)) hc_0 rfl dX7_keep_45 rfl (Nat.le_of_ble_eq_true rfl) (by decide) ⟨by decide, by decide⟩ ?_
    have hV2 : DV (up v2 66 q ((N : Nat) : Int)) 1 r c := hV.same (fun k hk => by funext z; rw [up_ne (by omega), e0 _ (by omega)]) (fun _ _ => rfl)
    exact M_iretP (pc := 48) C rfl dX7_keep_48 ⟨by rw [k5 5 (by omega) (by decide), hH.fil], hV2.cpd (fun _ _ => rfl), by rw [cpd_o (Or.inl (by omega)), up_eq], fun z hz => by rw [cpd_o (Or.inl (by omega)), up_n2 hz, e0 66 (by omega)], fun x h1 h2 => k5 x h2 h1⟩
