/-! the law's methods with handlers: the class's method returns, or throws and is caught -/
theorem up_sa (v : Ct) (a j : Nat) (x : Int) : up v a j x = sa v a (rs (v a) j x) := by
  rw [show up v a j x = up (sa v a (v a)) a j x from by rw [← sa_self], sa_up0]
theorem cl_13 : Cond.classLink RL 13 "java/lang/IllegalArgumentException" ∈ GW := GW_t (i := 593) (by decide +kernel) rfl
theorem cl_19 : Cond.classLink RL 19 "java/lang/IndexOutOfBoundsException" ∈ GW := GW_t (i := 625) (by decide +kernel) rfl
theorem cl_30 : Cond.classLink RL 30 "java/lang/IllegalStateException" ∈ GW := GW_t (i := 680) (by decide +kernel) rfl
theorem ow_13 : Cond.castable "java/lang/IllegalArgumentException" "java/lang/IllegalArgumentException" ∈ OW := OW_t (i := 405) (by decide +kernel) rfl
theorem ow_19 : Cond.castable "java/lang/IndexOutOfBoundsException" "java/lang/IndexOutOfBoundsException" ∈ OW := OW_t (i := 636) (by decide +kernel) rfl
theorem ow_30 : Cond.castable "java/lang/IllegalStateException" "java/lang/IllegalStateException" ∈ OW := OW_t (i := 692) (by decide +kernel) rfl
abbrev mL_create : MD := (yL_create, cL_create, 4, (some .int))
abbrev hL_create : List (Nat × Nat × Nat × Nat) := [(0, 9, 12, 13)]
theorem ml_L_7 : Cond.methodLink RL 7 yX7_create ∈ GW := GW_t (i := 594) (by decide +kernel) rfl
theorem w_create {N : Nat} {T : Ty} {v : Ct} {D : Nat} {x : Int} {P : Option MV → Ct → Prop} (hT : TT T) (hR : RunsP mX7_create D 0 0 [vR 0, vI x] N T v N T P) (hP : ∀ r1 v1, P r1 v1 → ∃ z, r1 = some (vI z)) : RunsE mL_create hL_create (D + 1) 1 6 [vR 0, vI x, vR 95] N T v (fun r1 N1 T1 v1 => r1 = some (vI 0) ∧ N1 = N ∧ T1 = T ∧ ∃ z v2, P (some (vI z)) v2 ∧ v1 = sa v2 95 (rs (v2 95) 0 (wr z))) := by
  refine RunsE.of (by decide) (Nat.le_of_ble_eq_true rfl) fun κ C hh1 => ?_
  refine M_aload_n (pc := 0) C dL_create_0 rfl (by decide) ?_
  refine M_iconst (pc := 1) C dL_create_1 ?_
  refine M_aload_n (pc := 2) C dL_create_2 rfl (by decide) ?_
  refine M_iload_n (pc := 3) C dL_create_3 rfl ?_
  refine A_pV (pc := 4) C (a := 0) (c := 7) hR yw_X7_create lk_L_7 rfl (congrArg Prod.fst (tt_0 hT)) hc_7 rfl dL_create_4 rfl (Nat.le_of_ble_eq_true rfl) (Nat.le_refl _) ⟨Nat.zero_le _, Nat.zero_le _⟩ (fun r_9 v_9 p_9 => ?_)
  obtain ⟨z, rfl⟩ := hP _ _ p_9
  refine M_wr (pc := 7) ?_
  refine M_i2l (pc := 7) C (wr_i32 _) dL_create_7 ?_
  refine A_last (pc := 8) C (a := 95) (q := 0) rfl (tt_95 hT) (by decide) rfl (by decide) (wr_i32 _) dL_create_8 ?_
  refine M_goto (pc := 9) C (tgt := 15) dL_create_9 (by decide) ?_
  refine M_iconst (pc := 15) C dL_create_15 ?_
  refine M.widen (k2 := 1) (n2 := 6) (Nat.zero_le _) (Nat.zero_le _) ?_
  exact M_toE (M_iretP (Post := fun r1 v1 => r1 = some (vI 0) ∧ ∃ z v2, P (some (vI z)) v2 ∧ v1 = sa v2 95 (rs (v2 95) 0 (wr z))) (pc := 16) C rfl dL_create_16 ⟨rfl, z, v_9, p_9, up_sa _ _ _ _⟩) (fun r v1 h => ⟨h.1, rfl, rfl, h.2⟩)
theorem x_create_1 {N : Nat} {T : Ty} {v : Ct} {D : Nat} {x : Int} {PX : Ct → Prop} (hT : TT T) (hR : Thr mX7_create D 1 6 [vR 0, vI x] N T v "java/lang/IllegalArgumentException" PX) : RunsE mL_create hL_create (D + 1) 1 6 [vR 0, vI x, vR 95] N T v (fun r1 N1 T1 v1 => r1 = some (vI 1) ∧ N ≤ N1 ∧ T1 = T ∧ PX v1) := by
  refine RunsE.of (by decide) (Nat.le_of_ble_eq_true rfl) fun κ C hh1 => ?_
  refine M_aload_n (pc := 0) C dL_create_0 rfl (by decide) ?_
  refine M_iconst (pc := 1) C dL_create_1 ?_
  refine M_aload_n (pc := 2) C dL_create_2 rfl (by decide) ?_
  refine M_iload_n (pc := 3) C dL_create_3 rfl ?_
  refine M_cat (pc := 4) C hh1 (pre := []) (suf := []) (x := ⟨0, 9, 12, 13⟩) rfl (fun z hz => nomatch hz) (by decide) (by decide) cl_13 ow_13 (a := 0) (c := 7) hR yw_X7_create ml_L_7 rfl (congrArg Prod.fst (tt_0 hT)) hc_7 rfl dL_create_4 rfl (Nat.le_of_ble_eq_true rfl) (Nat.le_refl _) ⟨by decide, by decide⟩ (Or.inl ⟨3, dL_create_12, by decide, rfl⟩) (fun N2 v1 hN2 hP => ?_)
  refine M_iconst (pc := 13) C dL_create_13 ?_
  exact M_toE (M_iretP (Post := fun r1 v1 => r1 = some (vI 1) ∧ PX v1) (pc := 14) C rfl dL_create_14 ⟨rfl, hP⟩) (fun r v1 h => ⟨h.1, hN2, rfl, h.2⟩)
abbrev mL_grow : MD := (yL_grow, cL_grow, 5, (some .int))
abbrev hL_grow : List (Nat × Nat × Nat × Nat) := [(0, 10, 13, 19), (0, 10, 17, 13)]
theorem ml_L_15 : Cond.methodLink RL 15 yX7_grow ∈ GW := GW_t (i := 626) (by decide +kernel) rfl
theorem w_grow {N : Nat} {T : Ty} {v : Ct} {D : Nat} {x y : Int} {P : Option MV → Ct → Prop} (hT : TT T) (hR : RunsP mX7_grow D 0 0 [vR 0, vI x, vI y] N T v N T P) (hP : ∀ r1 v1, P r1 v1 → ∃ z, r1 = some (vI z)) : RunsE mL_grow hL_grow (D + 1) 1 6 [vR 0, vI x, vI y, vR 95] N T v (fun r1 N1 T1 v1 => r1 = some (vI 0) ∧ N1 = N ∧ T1 = T ∧ ∃ z v2, P (some (vI z)) v2 ∧ v1 = sa v2 95 (rs (v2 95) 0 (wr z))) := by
  refine RunsE.of (by decide) (Nat.le_of_ble_eq_true rfl) fun κ C hh1 => ?_
  refine M_aload_n (pc := 0) C dL_grow_0 rfl (by decide) ?_
  refine M_iconst (pc := 1) C dL_grow_1 ?_
  refine M_aload_n (pc := 2) C dL_grow_2 rfl (by decide) ?_
  refine M_iload_n (pc := 3) C dL_grow_3 rfl ?_
  refine M_iload_n (pc := 4) C dL_grow_4 rfl ?_
  refine A_pV (pc := 5) C (a := 0) (c := 7) hR yw_X7_grow lk_L_15 rfl (congrArg Prod.fst (tt_0 hT)) hc_7 rfl dL_grow_5 rfl (Nat.le_of_ble_eq_true rfl) (Nat.le_refl _) ⟨Nat.zero_le _, Nat.zero_le _⟩ (fun r_9 v_9 p_9 => ?_)
  obtain ⟨z, rfl⟩ := hP _ _ p_9
  refine M_wr (pc := 8) ?_
  refine M_i2l (pc := 8) C (wr_i32 _) dL_grow_8 ?_
  refine A_last (pc := 9) C (a := 95) (q := 0) rfl (tt_95 hT) (by decide) rfl (by decide) (wr_i32 _) dL_grow_9 ?_
  refine M_goto (pc := 10) C (tgt := 21) dL_grow_10 (by decide) ?_
  refine M_iconst (pc := 21) C dL_grow_21 ?_
  refine M.widen (k2 := 1) (n2 := 6) (Nat.zero_le _) (Nat.zero_le _) ?_
  exact M_toE (M_iretP (Post := fun r1 v1 => r1 = some (vI 0) ∧ ∃ z v2, P (some (vI z)) v2 ∧ v1 = sa v2 95 (rs (v2 95) 0 (wr z))) (pc := 22) C rfl dL_grow_22 ⟨rfl, z, v_9, p_9, up_sa _ _ _ _⟩) (fun r v1 h => ⟨h.1, rfl, rfl, h.2⟩)
theorem x_grow_1 {N : Nat} {T : Ty} {v : Ct} {D : Nat} {x y : Int} {PX : Ct → Prop} (hT : TT T) (hR : Thr mX7_grow D 1 6 [vR 0, vI x, vI y] N T v "java/lang/IndexOutOfBoundsException" PX) : RunsE mL_grow hL_grow (D + 1) 1 6 [vR 0, vI x, vI y, vR 95] N T v (fun r1 N1 T1 v1 => r1 = some (vI 1) ∧ N ≤ N1 ∧ T1 = T ∧ PX v1) := by
  refine RunsE.of (by decide) (Nat.le_of_ble_eq_true rfl) fun κ C hh1 => ?_
  refine M_aload_n (pc := 0) C dL_grow_0 rfl (by decide) ?_
  refine M_iconst (pc := 1) C dL_grow_1 ?_
  refine M_aload_n (pc := 2) C dL_grow_2 rfl (by decide) ?_
  refine M_iload_n (pc := 3) C dL_grow_3 rfl ?_
  refine M_iload_n (pc := 4) C dL_grow_4 rfl ?_
  refine M_cat (pc := 5) C hh1 (pre := []) (suf := [⟨0, 10, 17, 13⟩]) (x := ⟨0, 10, 13, 19⟩) rfl (fun z hz => nomatch hz) (by decide) (by decide) cl_19 ow_19 (a := 0) (c := 7) hR yw_X7_grow ml_L_15 rfl (congrArg Prod.fst (tt_0 hT)) hc_7 rfl dL_grow_5 rfl (Nat.le_of_ble_eq_true rfl) (Nat.le_refl _) ⟨by decide, by decide⟩ (Or.inr ⟨4, dL_grow_13, by decide, rfl⟩) (fun N2 v1 hN2 hP => ?_)
  refine M_iconst (pc := 15) C dL_grow_15 ?_
  exact M_toE (M_iretP (Post := fun r1 v1 => r1 = some (vI 1) ∧ PX v1) (pc := 16) C rfl dL_grow_16 ⟨rfl, hP⟩) (fun r v1 h => ⟨h.1, hN2, rfl, h.2⟩)
theorem x_grow_2 {N : Nat} {T : Ty} {v : Ct} {D : Nat} {x y : Int} {PX : Ct → Prop} (hT : TT T) (hR : Thr mX7_grow D 1 6 [vR 0, vI x, vI y] N T v "java/lang/IllegalArgumentException" PX) : RunsE mL_grow hL_grow (D + 1) 1 6 [vR 0, vI x, vI y, vR 95] N T v (fun r1 N1 T1 v1 => r1 = some (vI 2) ∧ N ≤ N1 ∧ T1 = T ∧ PX v1) := by
  refine RunsE.of (by decide) (Nat.le_of_ble_eq_true rfl) fun κ C hh1 => ?_
  refine M_aload_n (pc := 0) C dL_grow_0 rfl (by decide) ?_
  refine M_iconst (pc := 1) C dL_grow_1 ?_
  refine M_aload_n (pc := 2) C dL_grow_2 rfl (by decide) ?_
  refine M_iload_n (pc := 3) C dL_grow_3 rfl ?_
  refine M_iload_n (pc := 4) C dL_grow_4 rfl ?_
  refine M_cat (pc := 5) C hh1 (pre := [⟨0, 10, 13, 19⟩]) (suf := []) (x := ⟨0, 10, 17, 13⟩) rfl (fun z hz => by rw [List.mem_singleton.mp hz]; exact ⟨by decide, "java/lang/IndexOutOfBoundsException", cl_19, by decide +kernel⟩) (by decide) (by decide) cl_13 ow_13 (a := 0) (c := 7) hR yw_X7_grow ml_L_15 rfl (congrArg Prod.fst (tt_0 hT)) hc_7 rfl dL_grow_5 rfl (Nat.le_of_ble_eq_true rfl) (Nat.le_refl _) ⟨by decide, by decide⟩ (Or.inr ⟨4, dL_grow_17, by decide, rfl⟩) (fun N2 v1 hN2 hP => ?_)
  refine M_iconst (pc := 19) C dL_grow_19 ?_
  exact M_toE (M_iretP (Post := fun r1 v1 => r1 = some (vI 2) ∧ PX v1) (pc := 20) C rfl dL_grow_20 ⟨rfl, hP⟩) (fun r v1 h => ⟨h.1, hN2, rfl, h.2⟩)
abbrev mL_cut : MD := (yL_cut, cL_cut, 5, (some .int))
abbrev hL_cut : List (Nat × Nat × Nat × Nat) := [(0, 10, 13, 19), (0, 10, 17, 13)]
theorem ml_L_21 : Cond.methodLink RL 21 yX7_cut ∈ GW := GW_t (i := 658) (by decide +kernel) rfl
theorem w_cut {N : Nat} {T : Ty} {v : Ct} {D : Nat} {x y : Int} {P : Option MV → Ct → Prop} (hT : TT T) (hR : RunsP mX7_cut D 0 0 [vR 0, vI x, vI y] N T v N T P) (hP : ∀ r1 v1, P r1 v1 → ∃ z, r1 = some (vI z)) : RunsE mL_cut hL_cut (D + 1) 1 6 [vR 0, vI x, vI y, vR 95] N T v (fun r1 N1 T1 v1 => r1 = some (vI 0) ∧ N1 = N ∧ T1 = T ∧ ∃ z v2, P (some (vI z)) v2 ∧ v1 = sa v2 95 (rs (v2 95) 0 (wr z))) := by
  refine RunsE.of (by decide) (Nat.le_of_ble_eq_true rfl) fun κ C hh1 => ?_
  refine M_aload_n (pc := 0) C dL_cut_0 rfl (by decide) ?_
  refine M_iconst (pc := 1) C dL_cut_1 ?_
  refine M_aload_n (pc := 2) C dL_cut_2 rfl (by decide) ?_
  refine M_iload_n (pc := 3) C dL_cut_3 rfl ?_
  refine M_iload_n (pc := 4) C dL_cut_4 rfl ?_
  refine A_pV (pc := 5) C (a := 0) (c := 7) hR yw_X7_cut lk_L_21 rfl (congrArg Prod.fst (tt_0 hT)) hc_7 rfl dL_cut_5 rfl (Nat.le_of_ble_eq_true rfl) (Nat.le_refl _) ⟨Nat.zero_le _, Nat.zero_le _⟩ (fun r_9 v_9 p_9 => ?_)
  obtain ⟨z, rfl⟩ := hP _ _ p_9
  refine M_wr (pc := 8) ?_
  refine M_i2l (pc := 8) C (wr_i32 _) dL_cut_8 ?_
  refine A_last (pc := 9) C (a := 95) (q := 0) rfl (tt_95 hT) (by decide) rfl (by decide) (wr_i32 _) dL_cut_9 ?_
  refine M_goto (pc := 10) C (tgt := 21) dL_cut_10 (by decide) ?_
  refine M_iconst (pc := 21) C dL_cut_21 ?_
  refine M.widen (k2 := 1) (n2 := 6) (Nat.zero_le _) (Nat.zero_le _) ?_
  exact M_toE (M_iretP (Post := fun r1 v1 => r1 = some (vI 0) ∧ ∃ z v2, P (some (vI z)) v2 ∧ v1 = sa v2 95 (rs (v2 95) 0 (wr z))) (pc := 22) C rfl dL_cut_22 ⟨rfl, z, v_9, p_9, up_sa _ _ _ _⟩) (fun r v1 h => ⟨h.1, rfl, rfl, h.2⟩)
theorem x_cut_1 {N : Nat} {T : Ty} {v : Ct} {D : Nat} {x y : Int} {PX : Ct → Prop} (hT : TT T) (hR : Thr mX7_cut D 1 6 [vR 0, vI x, vI y] N T v "java/lang/IndexOutOfBoundsException" PX) : RunsE mL_cut hL_cut (D + 1) 1 6 [vR 0, vI x, vI y, vR 95] N T v (fun r1 N1 T1 v1 => r1 = some (vI 1) ∧ N ≤ N1 ∧ T1 = T ∧ PX v1) := by
  refine RunsE.of (by decide) (Nat.le_of_ble_eq_true rfl) fun κ C hh1 => ?_
  refine M_aload_n (pc := 0) C dL_cut_0 rfl (by decide) ?_
  refine M_iconst (pc := 1) C dL_cut_1 ?_
  refine M_aload_n (pc := 2) C dL_cut_2 rfl (by decide) ?_
  refine M_iload_n (pc := 3) C dL_cut_3 rfl ?_
  refine M_iload_n (pc := 4) C dL_cut_4 rfl ?_
  refine M_cat (pc := 5) C hh1 (pre := []) (suf := [⟨0, 10, 17, 13⟩]) (x := ⟨0, 10, 13, 19⟩) rfl (fun z hz => nomatch hz) (by decide) (by decide) cl_19 ow_19 (a := 0) (c := 7) hR yw_X7_cut ml_L_21 rfl (congrArg Prod.fst (tt_0 hT)) hc_7 rfl dL_cut_5 rfl (Nat.le_of_ble_eq_true rfl) (Nat.le_refl _) ⟨by decide, by decide⟩ (Or.inr ⟨4, dL_cut_13, by decide, rfl⟩) (fun N2 v1 hN2 hP => ?_)
  refine M_iconst (pc := 15) C dL_cut_15 ?_
  exact M_toE (M_iretP (Post := fun r1 v1 => r1 = some (vI 1) ∧ PX v1) (pc := 16) C rfl dL_cut_16 ⟨rfl, hP⟩) (fun r v1 h => ⟨h.1, hN2, rfl, h.2⟩)
theorem x_cut_2 {N : Nat} {T : Ty} {v : Ct} {D : Nat} {x y : Int} {PX : Ct → Prop} (hT : TT T) (hR : Thr mX7_cut D 1 6 [vR 0, vI x, vI y] N T v "java/lang/IllegalArgumentException" PX) : RunsE mL_cut hL_cut (D + 1) 1 6 [vR 0, vI x, vI y, vR 95] N T v (fun r1 N1 T1 v1 => r1 = some (vI 2) ∧ N ≤ N1 ∧ T1 = T ∧ PX v1) := by
  refine RunsE.of (by decide) (Nat.le_of_ble_eq_true rfl) fun κ C hh1 => ?_
  refine M_aload_n (pc := 0) C dL_cut_0 rfl (by decide) ?_
  refine M_iconst (pc := 1) C dL_cut_1 ?_
  refine M_aload_n (pc := 2) C dL_cut_2 rfl (by decide) ?_
  refine M_iload_n (pc := 3) C dL_cut_3 rfl ?_
  refine M_iload_n (pc := 4) C dL_cut_4 rfl ?_
  refine M_cat (pc := 5) C hh1 (pre := [⟨0, 10, 13, 19⟩]) (suf := []) (x := ⟨0, 10, 17, 13⟩) rfl (fun z hz => by rw [List.mem_singleton.mp hz]; exact ⟨by decide, "java/lang/IndexOutOfBoundsException", cl_19, by decide +kernel⟩) (by decide) (by decide) cl_13 ow_13 (a := 0) (c := 7) hR yw_X7_cut ml_L_21 rfl (congrArg Prod.fst (tt_0 hT)) hc_7 rfl dL_cut_5 rfl (Nat.le_of_ble_eq_true rfl) (Nat.le_refl _) ⟨by decide, by decide⟩ (Or.inr ⟨4, dL_cut_17, by decide, rfl⟩) (fun N2 v1 hN2 hP => ?_)
  refine M_iconst (pc := 19) C dL_cut_19 ?_
  exact M_toE (M_iretP (Post := fun r1 v1 => r1 = some (vI 2) ∧ PX v1) (pc := 20) C rfl dL_cut_20 ⟨rfl, hP⟩) (fun r v1 h => ⟨h.1, hN2, rfl, h.2⟩)
abbrev mL_delete : MD := (yL_delete, cL_delete, 4, (some .int))
abbrev hL_delete : List (Nat × Nat × Nat × Nat) := [(0, 9, 12, 19)]
theorem ml_L_24 : Cond.methodLink RL 24 yX7_delete ∈ GW := GW_t (i := 669) (by decide +kernel) rfl
theorem w_delete {N : Nat} {T : Ty} {v : Ct} {D : Nat} {x : Int} {P : Option MV → Ct → Prop} (hT : TT T) (hR : RunsP mX7_delete D 0 0 [vR 0, vI x] N T v N T P) (hP : ∀ r1 v1, P r1 v1 → ∃ z, r1 = some (vI z)) : RunsE mL_delete hL_delete (D + 1) 1 6 [vR 0, vI x, vR 95] N T v (fun r1 N1 T1 v1 => r1 = some (vI 0) ∧ N1 = N ∧ T1 = T ∧ ∃ z v2, P (some (vI z)) v2 ∧ v1 = sa v2 95 (rs (v2 95) 0 (wr z))) := by
  refine RunsE.of (by decide) (Nat.le_of_ble_eq_true rfl) fun κ C hh1 => ?_
  refine M_aload_n (pc := 0) C dL_delete_0 rfl (by decide) ?_
  refine M_iconst (pc := 1) C dL_delete_1 ?_
  refine M_aload_n (pc := 2) C dL_delete_2 rfl (by decide) ?_
  refine M_iload_n (pc := 3) C dL_delete_3 rfl ?_
  refine A_pV (pc := 4) C (a := 0) (c := 7) hR yw_X7_delete lk_L_24 rfl (congrArg Prod.fst (tt_0 hT)) hc_7 rfl dL_delete_4 rfl (Nat.le_of_ble_eq_true rfl) (Nat.le_refl _) ⟨Nat.zero_le _, Nat.zero_le _⟩ (fun r_9 v_9 p_9 => ?_)
  obtain ⟨z, rfl⟩ := hP _ _ p_9
  refine M_wr (pc := 7) ?_
  refine M_i2l (pc := 7) C (wr_i32 _) dL_delete_7 ?_
  refine A_last (pc := 8) C (a := 95) (q := 0) rfl (tt_95 hT) (by decide) rfl (by decide) (wr_i32 _) dL_delete_8 ?_
  refine M_goto (pc := 9) C (tgt := 15) dL_delete_9 (by decide) ?_
  refine M_iconst (pc := 15) C dL_delete_15 ?_
  refine M.widen (k2 := 1) (n2 := 6) (Nat.zero_le _) (Nat.zero_le _) ?_
  exact M_toE (M_iretP (Post := fun r1 v1 => r1 = some (vI 0) ∧ ∃ z v2, P (some (vI z)) v2 ∧ v1 = sa v2 95 (rs (v2 95) 0 (wr z))) (pc := 16) C rfl dL_delete_16 ⟨rfl, z, v_9, p_9, up_sa _ _ _ _⟩) (fun r v1 h => ⟨h.1, rfl, rfl, h.2⟩)
theorem x_delete_1 {N : Nat} {T : Ty} {v : Ct} {D : Nat} {x : Int} {PX : Ct → Prop} (hT : TT T) (hR : Thr mX7_delete D 1 6 [vR 0, vI x] N T v "java/lang/IndexOutOfBoundsException" PX) : RunsE mL_delete hL_delete (D + 1) 1 6 [vR 0, vI x, vR 95] N T v (fun r1 N1 T1 v1 => r1 = some (vI 1) ∧ N ≤ N1 ∧ T1 = T ∧ PX v1) := by
  refine RunsE.of (by decide) (Nat.le_of_ble_eq_true rfl) fun κ C hh1 => ?_
  refine M_aload_n (pc := 0) C dL_delete_0 rfl (by decide) ?_
  refine M_iconst (pc := 1) C dL_delete_1 ?_
  refine M_aload_n (pc := 2) C dL_delete_2 rfl (by decide) ?_
  refine M_iload_n (pc := 3) C dL_delete_3 rfl ?_
  refine M_cat (pc := 4) C hh1 (pre := []) (suf := []) (x := ⟨0, 9, 12, 19⟩) rfl (fun z hz => nomatch hz) (by decide) (by decide) cl_19 ow_19 (a := 0) (c := 7) hR yw_X7_delete ml_L_24 rfl (congrArg Prod.fst (tt_0 hT)) hc_7 rfl dL_delete_4 rfl (Nat.le_of_ble_eq_true rfl) (Nat.le_refl _) ⟨by decide, by decide⟩ (Or.inl ⟨3, dL_delete_12, by decide, rfl⟩) (fun N2 v1 hN2 hP => ?_)
  refine M_iconst (pc := 13) C dL_delete_13 ?_
  exact M_toE (M_iretP (Post := fun r1 v1 => r1 = some (vI 1) ∧ PX v1) (pc := 14) C rfl dL_delete_14 ⟨rfl, hP⟩) (fun r v1 h => ⟨h.1, hN2, rfl, h.2⟩)
abbrev mL_spoil : MD := (yL_spoil, cL_spoil, 4, (some .int))
abbrev hL_spoil : List (Nat × Nat × Nat × Nat) := [(0, 9, 12, 19), (0, 9, 15, 30)]
theorem ml_L_27 : Cond.methodLink RL 27 yX7_spoil ∈ GW := GW_t (i := 681) (by decide +kernel) rfl
theorem w_spoil {N : Nat} {T : Ty} {v : Ct} {D : Nat} {x : Int} {P : Option MV → Ct → Prop} (hT : TT T) (hR : RunsP mX7_spoil D 0 0 [vR 0, vI x] N T v N T P) (hP : ∀ r1 v1, P r1 v1 → ∃ z, r1 = some (vI z)) : RunsE mL_spoil hL_spoil (D + 1) 1 6 [vR 0, vI x, vR 95] N T v (fun r1 N1 T1 v1 => r1 = some (vI 0) ∧ N1 = N ∧ T1 = T ∧ ∃ z v2, P (some (vI z)) v2 ∧ v1 = sa v2 95 (rs (v2 95) 0 (wr z))) := by
  refine RunsE.of (by decide) (Nat.le_of_ble_eq_true rfl) fun κ C hh1 => ?_
  refine M_aload_n (pc := 0) C dL_spoil_0 rfl (by decide) ?_
  refine M_iconst (pc := 1) C dL_spoil_1 ?_
  refine M_aload_n (pc := 2) C dL_spoil_2 rfl (by decide) ?_
  refine M_iload_n (pc := 3) C dL_spoil_3 rfl ?_
  refine A_pV (pc := 4) C (a := 0) (c := 7) hR yw_X7_spoil lk_L_27 rfl (congrArg Prod.fst (tt_0 hT)) hc_7 rfl dL_spoil_4 rfl (Nat.le_of_ble_eq_true rfl) (Nat.le_refl _) ⟨Nat.zero_le _, Nat.zero_le _⟩ (fun r_9 v_9 p_9 => ?_)
  obtain ⟨z, rfl⟩ := hP _ _ p_9
  refine M_wr (pc := 7) ?_
  refine M_i2l (pc := 7) C (wr_i32 _) dL_spoil_7 ?_
  refine A_last (pc := 8) C (a := 95) (q := 0) rfl (tt_95 hT) (by decide) rfl (by decide) (wr_i32 _) dL_spoil_8 ?_
  refine M_goto (pc := 9) C (tgt := 18) dL_spoil_9 (by decide) ?_
  refine M_iconst (pc := 18) C dL_spoil_18 ?_
  refine M.widen (k2 := 1) (n2 := 6) (Nat.zero_le _) (Nat.zero_le _) ?_
  exact M_toE (M_iretP (Post := fun r1 v1 => r1 = some (vI 0) ∧ ∃ z v2, P (some (vI z)) v2 ∧ v1 = sa v2 95 (rs (v2 95) 0 (wr z))) (pc := 19) C rfl dL_spoil_19 ⟨rfl, z, v_9, p_9, up_sa _ _ _ _⟩) (fun r v1 h => ⟨h.1, rfl, rfl, h.2⟩)
theorem x_spoil_1 {N : Nat} {T : Ty} {v : Ct} {D : Nat} {x : Int} {PX : Ct → Prop} (hT : TT T) (hR : Thr mX7_spoil D 1 6 [vR 0, vI x] N T v "java/lang/IndexOutOfBoundsException" PX) : RunsE mL_spoil hL_spoil (D + 1) 1 6 [vR 0, vI x, vR 95] N T v (fun r1 N1 T1 v1 => r1 = some (vI 1) ∧ N ≤ N1 ∧ T1 = T ∧ PX v1) := by
  refine RunsE.of (by decide) (Nat.le_of_ble_eq_true rfl) fun κ C hh1 => ?_
  refine M_aload_n (pc := 0) C dL_spoil_0 rfl (by decide) ?_
  refine M_iconst (pc := 1) C dL_spoil_1 ?_
  refine M_aload_n (pc := 2) C dL_spoil_2 rfl (by decide) ?_
  refine M_iload_n (pc := 3) C dL_spoil_3 rfl ?_
  refine M_cat (pc := 4) C hh1 (pre := []) (suf := [⟨0, 9, 15, 30⟩]) (x := ⟨0, 9, 12, 19⟩) rfl (fun z hz => nomatch hz) (by decide) (by decide) cl_19 ow_19 (a := 0) (c := 7) hR yw_X7_spoil ml_L_27 rfl (congrArg Prod.fst (tt_0 hT)) hc_7 rfl dL_spoil_4 rfl (Nat.le_of_ble_eq_true rfl) (Nat.le_refl _) ⟨by decide, by decide⟩ (Or.inl ⟨3, dL_spoil_12, by decide, rfl⟩) (fun N2 v1 hN2 hP => ?_)
  refine M_iconst (pc := 13) C dL_spoil_13 ?_
  exact M_toE (M_iretP (Post := fun r1 v1 => r1 = some (vI 1) ∧ PX v1) (pc := 14) C rfl dL_spoil_14 ⟨rfl, hP⟩) (fun r v1 h => ⟨h.1, hN2, rfl, h.2⟩)
theorem x_spoil_2 {N : Nat} {T : Ty} {v : Ct} {D : Nat} {x : Int} {PX : Ct → Prop} (hT : TT T) (hR : Thr mX7_spoil D 1 6 [vR 0, vI x] N T v "java/lang/IllegalStateException" PX) : RunsE mL_spoil hL_spoil (D + 1) 1 6 [vR 0, vI x, vR 95] N T v (fun r1 N1 T1 v1 => r1 = some (vI 2) ∧ N ≤ N1 ∧ T1 = T ∧ PX v1) := by
  refine RunsE.of (by decide) (Nat.le_of_ble_eq_true rfl) fun κ C hh1 => ?_
  refine M_aload_n (pc := 0) C dL_spoil_0 rfl (by decide) ?_
  refine M_iconst (pc := 1) C dL_spoil_1 ?_
  refine M_aload_n (pc := 2) C dL_spoil_2 rfl (by decide) ?_
  refine M_iload_n (pc := 3) C dL_spoil_3 rfl ?_
  refine M_cat (pc := 4) C hh1 (pre := [⟨0, 9, 12, 19⟩]) (suf := []) (x := ⟨0, 9, 15, 30⟩) rfl (fun z hz => by rw [List.mem_singleton.mp hz]; exact ⟨by decide, "java/lang/IndexOutOfBoundsException", cl_19, by decide +kernel⟩) (by decide) (by decide) cl_30 ow_30 (a := 0) (c := 7) hR yw_X7_spoil ml_L_27 rfl (congrArg Prod.fst (tt_0 hT)) hc_7 rfl dL_spoil_4 rfl (Nat.le_of_ble_eq_true rfl) (Nat.le_refl _) ⟨by decide, by decide⟩ (Or.inl ⟨3, dL_spoil_15, by decide, rfl⟩) (fun N2 v1 hN2 hP => ?_)
  refine M_iconst (pc := 16) C dL_spoil_16 ?_
  exact M_toE (M_iretP (Post := fun r1 v1 => r1 = some (vI 2) ∧ PX v1) (pc := 17) C rfl dL_spoil_17 ⟨rfl, hP⟩) (fun r v1 h => ⟨h.1, hN2, rfl, h.2⟩)
abbrev mL_heal : MD := (yL_heal, cL_heal, 4, (some .int))
abbrev hL_heal : List (Nat × Nat × Nat × Nat) := [(0, 9, 12, 19), (0, 9, 15, 30)]
theorem ml_L_32 : Cond.methodLink RL 32 yX7_heal ∈ GW := GW_t (i := 713) (by decide +kernel) rfl
theorem w_heal {N : Nat} {T : Ty} {v : Ct} {D : Nat} {x : Int} {P : Option MV → Ct → Prop} (hT : TT T) (hR : RunsP mX7_heal D 0 0 [vR 0, vI x] N T v N T P) (hP : ∀ r1 v1, P r1 v1 → ∃ z, r1 = some (vI z)) : RunsE mL_heal hL_heal (D + 1) 1 6 [vR 0, vI x, vR 95] N T v (fun r1 N1 T1 v1 => r1 = some (vI 0) ∧ N1 = N ∧ T1 = T ∧ ∃ z v2, P (some (vI z)) v2 ∧ v1 = sa v2 95 (rs (v2 95) 0 (wr z))) := by
  refine RunsE.of (by decide) (Nat.le_of_ble_eq_true rfl) fun κ C hh1 => ?_
  refine M_aload_n (pc := 0) C dL_heal_0 rfl (by decide) ?_
  refine M_iconst (pc := 1) C dL_heal_1 ?_
  refine M_aload_n (pc := 2) C dL_heal_2 rfl (by decide) ?_
  refine M_iload_n (pc := 3) C dL_heal_3 rfl ?_
  refine A_pV (pc := 4) C (a := 0) (c := 7) hR yw_X7_heal lk_L_32 rfl (congrArg Prod.fst (tt_0 hT)) hc_7 rfl dL_heal_4 rfl (Nat.le_of_ble_eq_true rfl) (Nat.le_refl _) ⟨Nat.zero_le _, Nat.zero_le _⟩ (fun r_9 v_9 p_9 => ?_)
  obtain ⟨z, rfl⟩ := hP _ _ p_9
  refine M_wr (pc := 7) ?_
  refine M_i2l (pc := 7) C (wr_i32 _) dL_heal_7 ?_
  refine A_last (pc := 8) C (a := 95) (q := 0) rfl (tt_95 hT) (by decide) rfl (by decide) (wr_i32 _) dL_heal_8 ?_
  refine M_goto (pc := 9) C (tgt := 18) dL_heal_9 (by decide) ?_
  refine M_iconst (pc := 18) C dL_heal_18 ?_
  refine M.widen (k2 := 1) (n2 := 6) (Nat.zero_le _) (Nat.zero_le _) ?_
  exact M_toE (M_iretP (Post := fun r1 v1 => r1 = some (vI 0) ∧ ∃ z v2, P (some (vI z)) v2 ∧ v1 = sa v2 95 (rs (v2 95) 0 (wr z))) (pc := 19) C rfl dL_heal_19 ⟨rfl, z, v_9, p_9, up_sa _ _ _ _⟩) (fun r v1 h => ⟨h.1, rfl, rfl, h.2⟩)
theorem x_heal_1 {N : Nat} {T : Ty} {v : Ct} {D : Nat} {x : Int} {PX : Ct → Prop} (hT : TT T) (hR : Thr mX7_heal D 1 6 [vR 0, vI x] N T v "java/lang/IndexOutOfBoundsException" PX) : RunsE mL_heal hL_heal (D + 1) 1 6 [vR 0, vI x, vR 95] N T v (fun r1 N1 T1 v1 => r1 = some (vI 1) ∧ N ≤ N1 ∧ T1 = T ∧ PX v1) := by
  refine RunsE.of (by decide) (Nat.le_of_ble_eq_true rfl) fun κ C hh1 => ?_
  refine M_aload_n (pc := 0) C dL_heal_0 rfl (by decide) ?_
  refine M_iconst (pc := 1) C dL_heal_1 ?_
  refine M_aload_n (pc := 2) C dL_heal_2 rfl (by decide) ?_
  refine M_iload_n (pc := 3) C dL_heal_3 rfl ?_
  refine M_cat (pc := 4) C hh1 (pre := []) (suf := [⟨0, 9, 15, 30⟩]) (x := ⟨0, 9, 12, 19⟩) rfl (fun z hz => nomatch hz) (by decide) (by decide) cl_19 ow_19 (a := 0) (c := 7) hR yw_X7_heal ml_L_32 rfl (congrArg Prod.fst (tt_0 hT)) hc_7 rfl dL_heal_4 rfl (Nat.le_of_ble_eq_true rfl) (Nat.le_refl _) ⟨by decide, by decide⟩ (Or.inl ⟨3, dL_heal_12, by decide, rfl⟩) (fun N2 v1 hN2 hP => ?_)
  refine M_iconst (pc := 13) C dL_heal_13 ?_
  exact M_toE (M_iretP (Post := fun r1 v1 => r1 = some (vI 1) ∧ PX v1) (pc := 14) C rfl dL_heal_14 ⟨rfl, hP⟩) (fun r v1 h => ⟨h.1, hN2, rfl, h.2⟩)
theorem x_heal_2 {N : Nat} {T : Ty} {v : Ct} {D : Nat} {x : Int} {PX : Ct → Prop} (hT : TT T) (hR : Thr mX7_heal D 1 6 [vR 0, vI x] N T v "java/lang/IllegalStateException" PX) : RunsE mL_heal hL_heal (D + 1) 1 6 [vR 0, vI x, vR 95] N T v (fun r1 N1 T1 v1 => r1 = some (vI 2) ∧ N ≤ N1 ∧ T1 = T ∧ PX v1) := by
  refine RunsE.of (by decide) (Nat.le_of_ble_eq_true rfl) fun κ C hh1 => ?_
  refine M_aload_n (pc := 0) C dL_heal_0 rfl (by decide) ?_
  refine M_iconst (pc := 1) C dL_heal_1 ?_
  refine M_aload_n (pc := 2) C dL_heal_2 rfl (by decide) ?_
  refine M_iload_n (pc := 3) C dL_heal_3 rfl ?_
  refine M_cat (pc := 4) C hh1 (pre := [⟨0, 9, 12, 19⟩]) (suf := []) (x := ⟨0, 9, 15, 30⟩) rfl (fun z hz => by rw [List.mem_singleton.mp hz]; exact ⟨by decide, "java/lang/IndexOutOfBoundsException", cl_19, by decide +kernel⟩) (by decide) (by decide) cl_30 ow_30 (a := 0) (c := 7) hR yw_X7_heal ml_L_32 rfl (congrArg Prod.fst (tt_0 hT)) hc_7 rfl dL_heal_4 rfl (Nat.le_of_ble_eq_true rfl) (Nat.le_refl _) ⟨by decide, by decide⟩ (Or.inl ⟨3, dL_heal_15, by decide, rfl⟩) (fun N2 v1 hN2 hP => ?_)
  refine M_iconst (pc := 16) C dL_heal_16 ?_
  exact M_toE (M_iretP (Post := fun r1 v1 => r1 = some (vI 2) ∧ PX v1) (pc := 17) C rfl dL_heal_17 ⟨rfl, hP⟩) (fun r v1 h => ⟨h.1, hN2, rfl, h.2⟩)
abbrev mL_set : MD := (yL_set, cL_set, 4, (some .int))
abbrev hL_set : List (Nat × Nat × Nat × Nat) := [(0, 9, 12, 13)]
theorem ml_L_35 : Cond.methodLink RL 35 yX7_set ∈ GW := GW_t (i := 730) (by decide +kernel) rfl
theorem w_set {N : Nat} {T : Ty} {v : Ct} {D : Nat} {x : Int} {P : Option MV → Ct → Prop} (hT : TT T) (hR : RunsP mX7_set D 0 0 [vR 0, vI x] N T v N T P) (hP : ∀ r1 v1, P r1 v1 → ∃ z, r1 = some (vI z)) : RunsE mL_set hL_set (D + 1) 1 6 [vR 0, vI x, vR 95] N T v (fun r1 N1 T1 v1 => r1 = some (vI 0) ∧ N1 = N ∧ T1 = T ∧ ∃ z v2, P (some (vI z)) v2 ∧ v1 = sa v2 95 (rs (v2 95) 0 (wr z))) := by
  refine RunsE.of (by decide) (Nat.le_of_ble_eq_true rfl) fun κ C hh1 => ?_
  refine M_aload_n (pc := 0) C dL_set_0 rfl (by decide) ?_
  refine M_iconst (pc := 1) C dL_set_1 ?_
  refine M_aload_n (pc := 2) C dL_set_2 rfl (by decide) ?_
  refine M_iload_n (pc := 3) C dL_set_3 rfl ?_
  refine A_pV (pc := 4) C (a := 0) (c := 7) hR yw_X7_set lk_L_35 rfl (congrArg Prod.fst (tt_0 hT)) hc_7 rfl dL_set_4 rfl (Nat.le_of_ble_eq_true rfl) (Nat.le_refl _) ⟨Nat.zero_le _, Nat.zero_le _⟩ (fun r_9 v_9 p_9 => ?_)
  obtain ⟨z, rfl⟩ := hP _ _ p_9
  refine M_wr (pc := 7) ?_
  refine M_i2l (pc := 7) C (wr_i32 _) dL_set_7 ?_
  refine A_last (pc := 8) C (a := 95) (q := 0) rfl (tt_95 hT) (by decide) rfl (by decide) (wr_i32 _) dL_set_8 ?_
  refine M_goto (pc := 9) C (tgt := 15) dL_set_9 (by decide) ?_
  refine M_iconst (pc := 15) C dL_set_15 ?_
  refine M.widen (k2 := 1) (n2 := 6) (Nat.zero_le _) (Nat.zero_le _) ?_
  exact M_toE (M_iretP (Post := fun r1 v1 => r1 = some (vI 0) ∧ ∃ z v2, P (some (vI z)) v2 ∧ v1 = sa v2 95 (rs (v2 95) 0 (wr z))) (pc := 16) C rfl dL_set_16 ⟨rfl, z, v_9, p_9, up_sa _ _ _ _⟩) (fun r v1 h => ⟨h.1, rfl, rfl, h.2⟩)
theorem x_set_1 {N : Nat} {T : Ty} {v : Ct} {D : Nat} {x : Int} {PX : Ct → Prop} (hT : TT T) (hR : Thr mX7_set D 1 6 [vR 0, vI x] N T v "java/lang/IllegalArgumentException" PX) : RunsE mL_set hL_set (D + 1) 1 6 [vR 0, vI x, vR 95] N T v (fun r1 N1 T1 v1 => r1 = some (vI 1) ∧ N ≤ N1 ∧ T1 = T ∧ PX v1) := by
  refine RunsE.of (by decide) (Nat.le_of_ble_eq_true rfl) fun κ C hh1 => ?_
  refine M_aload_n (pc := 0) C dL_set_0 rfl (by decide) ?_
  refine M_iconst (pc := 1) C dL_set_1 ?_
  refine M_aload_n (pc := 2) C dL_set_2 rfl (by decide) ?_
  refine M_iload_n (pc := 3) C dL_set_3 rfl ?_
  refine M_cat (pc := 4) C hh1 (pre := []) (suf := []) (x := ⟨0, 9, 12, 13⟩) rfl (fun z hz => nomatch hz) (by decide) (by decide) cl_13 ow_13 (a := 0) (c := 7) hR yw_X7_set ml_L_35 rfl (congrArg Prod.fst (tt_0 hT)) hc_7 rfl dL_set_4 rfl (Nat.le_of_ble_eq_true rfl) (Nat.le_refl _) ⟨by decide, by decide⟩ (Or.inl ⟨3, dL_set_12, by decide, rfl⟩) (fun N2 v1 hN2 hP => ?_)
  refine M_iconst (pc := 13) C dL_set_13 ?_
  exact M_toE (M_iretP (Post := fun r1 v1 => r1 = some (vI 1) ∧ PX v1) (pc := 14) C rfl dL_set_14 ⟨rfl, hP⟩) (fun r v1 h => ⟨h.1, hN2, rfl, h.2⟩)
abbrev mL_append : MD := (yL_append, cL_append, 4, (some .int))
abbrev hL_append : List (Nat × Nat × Nat × Nat) := [(0, 9, 12, 13), (0, 9, 15, 30)]
theorem ml_L_38 : Cond.methodLink RL 38 yX7_append ∈ GW := GW_t (i := 737) (by decide +kernel) rfl
theorem w_append {N : Nat} {T : Ty} {v : Ct} {D : Nat} {x : Int} {P : Option MV → Ct → Prop} (hT : TT T) (hR : RunsP mX7_append D 0 0 [vR 0, vI x] N T v N T P) (hP : ∀ r1 v1, P r1 v1 → ∃ z, r1 = some (vI z)) : RunsE mL_append hL_append (D + 1) 1 6 [vR 0, vI x, vR 95] N T v (fun r1 N1 T1 v1 => r1 = some (vI 0) ∧ N1 = N ∧ T1 = T ∧ ∃ z v2, P (some (vI z)) v2 ∧ v1 = sa v2 95 (rs (v2 95) 0 (wr z))) := by
  refine RunsE.of (by decide) (Nat.le_of_ble_eq_true rfl) fun κ C hh1 => ?_
  refine M_aload_n (pc := 0) C dL_append_0 rfl (by decide) ?_
  refine M_iconst (pc := 1) C dL_append_1 ?_
  refine M_aload_n (pc := 2) C dL_append_2 rfl (by decide) ?_
  refine M_iload_n (pc := 3) C dL_append_3 rfl ?_
  refine A_pV (pc := 4) C (a := 0) (c := 7) hR yw_X7_append lk_L_38 rfl (congrArg Prod.fst (tt_0 hT)) hc_7 rfl dL_append_4 rfl (Nat.le_of_ble_eq_true rfl) (Nat.le_refl _) ⟨Nat.zero_le _, Nat.zero_le _⟩ (fun r_9 v_9 p_9 => ?_)
  obtain ⟨z, rfl⟩ := hP _ _ p_9
  refine M_wr (pc := 7) ?_
  refine M_i2l (pc := 7) C (wr_i32 _) dL_append_7 ?_
  refine A_last (pc := 8) C (a := 95) (q := 0) rfl (tt_95 hT) (by decide) rfl (by decide) (wr_i32 _) dL_append_8 ?_
  refine M_goto (pc := 9) C (tgt := 18) dL_append_9 (by decide) ?_
  refine M_iconst (pc := 18) C dL_append_18 ?_
  refine M.widen (k2 := 1) (n2 := 6) (Nat.zero_le _) (Nat.zero_le _) ?_
  exact M_toE (M_iretP (Post := fun r1 v1 => r1 = some (vI 0) ∧ ∃ z v2, P (some (vI z)) v2 ∧ v1 = sa v2 95 (rs (v2 95) 0 (wr z))) (pc := 19) C rfl dL_append_19 ⟨rfl, z, v_9, p_9, up_sa _ _ _ _⟩) (fun r v1 h => ⟨h.1, rfl, rfl, h.2⟩)
theorem x_append_1 {N : Nat} {T : Ty} {v : Ct} {D : Nat} {x : Int} {PX : Ct → Prop} (hT : TT T) (hR : Thr mX7_append D 1 6 [vR 0, vI x] N T v "java/lang/IllegalArgumentException" PX) : RunsE mL_append hL_append (D + 1) 1 6 [vR 0, vI x, vR 95] N T v (fun r1 N1 T1 v1 => r1 = some (vI 1) ∧ N ≤ N1 ∧ T1 = T ∧ PX v1) := by
  refine RunsE.of (by decide) (Nat.le_of_ble_eq_true rfl) fun κ C hh1 => ?_
  refine M_aload_n (pc := 0) C dL_append_0 rfl (by decide) ?_
  refine M_iconst (pc := 1) C dL_append_1 ?_
  refine M_aload_n (pc := 2) C dL_append_2 rfl (by decide) ?_
  refine M_iload_n (pc := 3) C dL_append_3 rfl ?_
  refine M_cat (pc := 4) C hh1 (pre := []) (suf := [⟨0, 9, 15, 30⟩]) (x := ⟨0, 9, 12, 13⟩) rfl (fun z hz => nomatch hz) (by decide) (by decide) cl_13 ow_13 (a := 0) (c := 7) hR yw_X7_append ml_L_38 rfl (congrArg Prod.fst (tt_0 hT)) hc_7 rfl dL_append_4 rfl (Nat.le_of_ble_eq_true rfl) (Nat.le_refl _) ⟨by decide, by decide⟩ (Or.inl ⟨3, dL_append_12, by decide, rfl⟩) (fun N2 v1 hN2 hP => ?_)
  refine M_iconst (pc := 13) C dL_append_13 ?_
  exact M_toE (M_iretP (Post := fun r1 v1 => r1 = some (vI 1) ∧ PX v1) (pc := 14) C rfl dL_append_14 ⟨rfl, hP⟩) (fun r v1 h => ⟨h.1, hN2, rfl, h.2⟩)
theorem x_append_2 {N : Nat} {T : Ty} {v : Ct} {D : Nat} {x : Int} {PX : Ct → Prop} (hT : TT T) (hR : Thr mX7_append D 1 6 [vR 0, vI x] N T v "java/lang/IllegalStateException" PX) : RunsE mL_append hL_append (D + 1) 1 6 [vR 0, vI x, vR 95] N T v (fun r1 N1 T1 v1 => r1 = some (vI 2) ∧ N ≤ N1 ∧ T1 = T ∧ PX v1) := by
  refine RunsE.of (by decide) (Nat.le_of_ble_eq_true rfl) fun κ C hh1 => ?_
  refine M_aload_n (pc := 0) C dL_append_0 rfl (by decide) ?_
  refine M_iconst (pc := 1) C dL_append_1 ?_
  refine M_aload_n (pc := 2) C dL_append_2 rfl (by decide) ?_
  refine M_iload_n (pc := 3) C dL_append_3 rfl ?_
  refine M_cat (pc := 4) C hh1 (pre := [⟨0, 9, 12, 13⟩]) (suf := []) (x := ⟨0, 9, 15, 30⟩) rfl (fun z hz => by rw [List.mem_singleton.mp hz]; exact ⟨by decide, "java/lang/IllegalArgumentException", cl_13, by decide +kernel⟩) (by decide) (by decide) cl_30 ow_30 (a := 0) (c := 7) hR yw_X7_append ml_L_38 rfl (congrArg Prod.fst (tt_0 hT)) hc_7 rfl dL_append_4 rfl (Nat.le_of_ble_eq_true rfl) (Nat.le_refl _) ⟨by decide, by decide⟩ (Or.inl ⟨3, dL_append_15, by decide, rfl⟩) (fun N2 v1 hN2 hP => ?_)
  refine M_iconst (pc := 16) C dL_append_16 ?_
  exact M_toE (M_iretP (Post := fun r1 v1 => r1 = some (vI 2) ∧ PX v1) (pc := 17) C rfl dL_append_17 ⟨rfl, hP⟩) (fun r v1 h => ⟨h.1, hN2, rfl, h.2⟩)
abbrev mL_run : MD := (yL_run, cL_run, 3, (some .int))
abbrev hL_run : List (Nat × Nat × Nat × Nat) := [(0, 8, 11, 13)]
theorem ml_L_41 : Cond.methodLink RL 41 yX7_run ∈ GW := GW_t (i := 753) (by decide +kernel) rfl
theorem w_run {N : Nat} {T : Ty} {v : Ct} {D : Nat} {P : Option MV → Ct → Prop} (hT : TT T) (hR : RunsP mX7_run D 0 0 [vR 0] N T v N T P) (hP : ∀ r1 v1, P r1 v1 → ∃ z, r1 = some (vI z)) : RunsE mL_run hL_run (D + 1) 1 6 [vR 0, vR 95] N T v (fun r1 N1 T1 v1 => r1 = some (vI 0) ∧ N1 = N ∧ T1 = T ∧ ∃ z v2, P (some (vI z)) v2 ∧ v1 = sa v2 95 (rs (v2 95) 0 (wr z))) := by
  refine RunsE.of (by decide) (Nat.le_of_ble_eq_true rfl) fun κ C hh1 => ?_
  refine M_aload_n (pc := 0) C dL_run_0 rfl (by decide) ?_
  refine M_iconst (pc := 1) C dL_run_1 ?_
  refine M_aload_n (pc := 2) C dL_run_2 rfl (by decide) ?_
  refine A_pV (pc := 3) C (a := 0) (c := 7) hR yw_X7_run lk_L_41 rfl (congrArg Prod.fst (tt_0 hT)) hc_7 rfl dL_run_3 rfl (Nat.le_of_ble_eq_true rfl) (Nat.le_refl _) ⟨Nat.zero_le _, Nat.zero_le _⟩ (fun r_9 v_9 p_9 => ?_)
  obtain ⟨z, rfl⟩ := hP _ _ p_9
  refine M_wr (pc := 6) ?_
  refine M_i2l (pc := 6) C (wr_i32 _) dL_run_6 ?_
  refine A_last (pc := 7) C (a := 95) (q := 0) rfl (tt_95 hT) (by decide) rfl (by decide) (wr_i32 _) dL_run_7 ?_
  refine M_goto (pc := 8) C (tgt := 14) dL_run_8 (by decide) ?_
  refine M_iconst (pc := 14) C dL_run_14 ?_
  refine M.widen (k2 := 1) (n2 := 6) (Nat.zero_le _) (Nat.zero_le _) ?_
  exact M_toE (M_iretP (Post := fun r1 v1 => r1 = some (vI 0) ∧ ∃ z v2, P (some (vI z)) v2 ∧ v1 = sa v2 95 (rs (v2 95) 0 (wr z))) (pc := 15) C rfl dL_run_15 ⟨rfl, z, v_9, p_9, up_sa _ _ _ _⟩) (fun r v1 h => ⟨h.1, rfl, rfl, h.2⟩)
theorem x_run_1 {N : Nat} {T : Ty} {v : Ct} {D : Nat} {PX : Ct → Prop} (hT : TT T) (hR : Thr mX7_run D 1 6 [vR 0] N T v "java/lang/IllegalArgumentException" PX) : RunsE mL_run hL_run (D + 1) 1 6 [vR 0, vR 95] N T v (fun r1 N1 T1 v1 => r1 = some (vI 1) ∧ N ≤ N1 ∧ T1 = T ∧ PX v1) := by
  refine RunsE.of (by decide) (Nat.le_of_ble_eq_true rfl) fun κ C hh1 => ?_
  refine M_aload_n (pc := 0) C dL_run_0 rfl (by decide) ?_
  refine M_iconst (pc := 1) C dL_run_1 ?_
  refine M_aload_n (pc := 2) C dL_run_2 rfl (by decide) ?_
  refine M_cat (pc := 3) C hh1 (pre := []) (suf := []) (x := ⟨0, 8, 11, 13⟩) rfl (fun z hz => nomatch hz) (by decide) (by decide) cl_13 ow_13 (a := 0) (c := 7) hR yw_X7_run ml_L_41 rfl (congrArg Prod.fst (tt_0 hT)) hc_7 rfl dL_run_3 rfl (Nat.le_of_ble_eq_true rfl) (Nat.le_refl _) ⟨by decide, by decide⟩ (Or.inl ⟨2, dL_run_11, by decide, rfl⟩) (fun N2 v1 hN2 hP => ?_)
  refine M_iconst (pc := 12) C dL_run_12 ?_
  exact M_toE (M_iretP (Post := fun r1 v1 => r1 = some (vI 1) ∧ PX v1) (pc := 13) C rfl dL_run_13 ⟨rfl, hP⟩) (fun r v1 h => ⟨h.1, hN2, rfl, h.2⟩)
abbrev mL_keep : MD := (yL_keep, cL_keep, 4, (some .int))
abbrev hL_keep : List (Nat × Nat × Nat × Nat) := [(0, 9, 12, 13)]
theorem ml_L_45 : Cond.methodLink RL 45 yX7_keep ∈ GW := GW_t (i := 775) (by decide +kernel) rfl
theorem w_keep {N : Nat} {T : Ty} {v : Ct} {D : Nat} {x : Int} {P : Option MV → Ct → Prop} (hT : TT T) (hR : RunsP mX7_keep D 0 0 [vR 0, vI x] N T v N T P) (hP : ∀ r1 v1, P r1 v1 → ∃ z, r1 = some (vI z)) : RunsE mL_keep hL_keep (D + 1) 1 6 [vR 0, vI x, vR 95] N T v (fun r1 N1 T1 v1 => r1 = some (vI 0) ∧ N1 = N ∧ T1 = T ∧ ∃ z v2, P (some (vI z)) v2 ∧ v1 = sa v2 95 (rs (v2 95) 0 (wr z))) := by
  refine RunsE.of (by decide) (Nat.le_of_ble_eq_true rfl) fun κ C hh1 => ?_
  refine M_aload_n (pc := 0) C dL_keep_0 rfl (by decide) ?_
  refine M_iconst (pc := 1) C dL_keep_1 ?_
  refine M_aload_n (pc := 2) C dL_keep_2 rfl (by decide) ?_
  refine M_iload_n (pc := 3) C dL_keep_3 rfl ?_
  refine A_pV (pc := 4) C (a := 0) (c := 7) hR yw_X7_keep lk_L_45 rfl (congrArg Prod.fst (tt_0 hT)) hc_7 rfl dL_keep_4 rfl (Nat.le_of_ble_eq_true rfl) (Nat.le_refl _) ⟨Nat.zero_le _, Nat.zero_le _⟩ (fun r_9 v_9 p_9 => ?_)
  obtain ⟨z, rfl⟩ := hP _ _ p_9
  refine M_wr (pc := 7) ?_
  refine M_i2l (pc := 7) C (wr_i32 _) dL_keep_7 ?_
  refine A_last (pc := 8) C (a := 95) (q := 0) rfl (tt_95 hT) (by decide) rfl (by decide) (wr_i32 _) dL_keep_8 ?_
  refine M_goto (pc := 9) C (tgt := 15) dL_keep_9 (by decide) ?_
  refine M_iconst (pc := 15) C dL_keep_15 ?_
  refine M.widen (k2 := 1) (n2 := 6) (Nat.zero_le _) (Nat.zero_le _) ?_
  exact M_toE (M_iretP (Post := fun r1 v1 => r1 = some (vI 0) ∧ ∃ z v2, P (some (vI z)) v2 ∧ v1 = sa v2 95 (rs (v2 95) 0 (wr z))) (pc := 16) C rfl dL_keep_16 ⟨rfl, z, v_9, p_9, up_sa _ _ _ _⟩) (fun r v1 h => ⟨h.1, rfl, rfl, h.2⟩)
theorem x_keep_1 {N : Nat} {T : Ty} {v : Ct} {D : Nat} {x : Int} {PX : Ct → Prop} (hT : TT T) (hR : Thr mX7_keep D 1 6 [vR 0, vI x] N T v "java/lang/IllegalArgumentException" PX) : RunsE mL_keep hL_keep (D + 1) 1 6 [vR 0, vI x, vR 95] N T v (fun r1 N1 T1 v1 => r1 = some (vI 1) ∧ N ≤ N1 ∧ T1 = T ∧ PX v1) := by
  refine RunsE.of (by decide) (Nat.le_of_ble_eq_true rfl) fun κ C hh1 => ?_
  refine M_aload_n (pc := 0) C dL_keep_0 rfl (by decide) ?_
  refine M_iconst (pc := 1) C dL_keep_1 ?_
  refine M_aload_n (pc := 2) C dL_keep_2 rfl (by decide) ?_
  refine M_iload_n (pc := 3) C dL_keep_3 rfl ?_
  refine M_cat (pc := 4) C hh1 (pre := []) (suf := []) (x := ⟨0, 9, 12, 13⟩) rfl (fun z hz => nomatch hz) (by decide) (by decide) cl_13 ow_13 (a := 0) (c := 7) hR yw_X7_keep ml_L_45 rfl (congrArg Prod.fst (tt_0 hT)) hc_7 rfl dL_keep_4 rfl (Nat.le_of_ble_eq_true rfl) (Nat.le_refl _) ⟨by decide, by decide⟩ (Or.inl ⟨3, dL_keep_12, by decide, rfl⟩) (fun N2 v1 hN2 hP => ?_)
  refine M_iconst (pc := 13) C dL_keep_13 ?_
  exact M_toE (M_iretP (Post := fun r1 v1 => r1 = some (vI 1) ∧ PX v1) (pc := 14) C rfl dL_keep_14 ⟨rfl, hP⟩) (fun r v1 h => ⟨h.1, hN2, rfl, h.2⟩)
abbrev mL_goBack : MD := (yL_goBack, cL_goBack, 4, (some .int))
abbrev hL_goBack : List (Nat × Nat × Nat × Nat) := [(0, 9, 12, 13), (0, 9, 15, 30)]
theorem ml_L_48 : Cond.methodLink RL 48 yX7_goBack ∈ GW := GW_t (i := 783) (by decide +kernel) rfl
theorem w_goBack {N : Nat} {T : Ty} {v : Ct} {D : Nat} {x : Int} {P : Option MV → Ct → Prop} (hT : TT T) (hR : RunsP mX7_goBack D 0 0 [vR 0, vI x] N T v N T P) (hP : ∀ r1 v1, P r1 v1 → ∃ z, r1 = some (vI z)) : RunsE mL_goBack hL_goBack (D + 1) 1 6 [vR 0, vI x, vR 95] N T v (fun r1 N1 T1 v1 => r1 = some (vI 0) ∧ N1 = N ∧ T1 = T ∧ ∃ z v2, P (some (vI z)) v2 ∧ v1 = sa v2 95 (rs (v2 95) 0 (wr z))) := by
  refine RunsE.of (by decide) (Nat.le_of_ble_eq_true rfl) fun κ C hh1 => ?_
  refine M_aload_n (pc := 0) C dL_goBack_0 rfl (by decide) ?_
  refine M_iconst (pc := 1) C dL_goBack_1 ?_
  refine M_aload_n (pc := 2) C dL_goBack_2 rfl (by decide) ?_
  refine M_iload_n (pc := 3) C dL_goBack_3 rfl ?_
  refine A_pV (pc := 4) C (a := 0) (c := 7) hR yw_X7_goBack lk_L_48 rfl (congrArg Prod.fst (tt_0 hT)) hc_7 rfl dL_goBack_4 rfl (Nat.le_of_ble_eq_true rfl) (Nat.le_refl _) ⟨Nat.zero_le _, Nat.zero_le _⟩ (fun r_9 v_9 p_9 => ?_)
  obtain ⟨z, rfl⟩ := hP _ _ p_9
  refine M_wr (pc := 7) ?_
  refine M_i2l (pc := 7) C (wr_i32 _) dL_goBack_7 ?_
  refine A_last (pc := 8) C (a := 95) (q := 0) rfl (tt_95 hT) (by decide) rfl (by decide) (wr_i32 _) dL_goBack_8 ?_
  refine M_goto (pc := 9) C (tgt := 18) dL_goBack_9 (by decide) ?_
  refine M_iconst (pc := 18) C dL_goBack_18 ?_
  refine M.widen (k2 := 1) (n2 := 6) (Nat.zero_le _) (Nat.zero_le _) ?_
  exact M_toE (M_iretP (Post := fun r1 v1 => r1 = some (vI 0) ∧ ∃ z v2, P (some (vI z)) v2 ∧ v1 = sa v2 95 (rs (v2 95) 0 (wr z))) (pc := 19) C rfl dL_goBack_19 ⟨rfl, z, v_9, p_9, up_sa _ _ _ _⟩) (fun r v1 h => ⟨h.1, rfl, rfl, h.2⟩)
theorem x_goBack_1 {N : Nat} {T : Ty} {v : Ct} {D : Nat} {x : Int} {PX : Ct → Prop} (hT : TT T) (hR : Thr mX7_goBack D 1 6 [vR 0, vI x] N T v "java/lang/IllegalArgumentException" PX) : RunsE mL_goBack hL_goBack (D + 1) 1 6 [vR 0, vI x, vR 95] N T v (fun r1 N1 T1 v1 => r1 = some (vI 1) ∧ N ≤ N1 ∧ T1 = T ∧ PX v1) := by
  refine RunsE.of (by decide) (Nat.le_of_ble_eq_true rfl) fun κ C hh1 => ?_
  refine M_aload_n (pc := 0) C dL_goBack_0 rfl (by decide) ?_
  refine M_iconst (pc := 1) C dL_goBack_1 ?_
  refine M_aload_n (pc := 2) C dL_goBack_2 rfl (by decide) ?_
  refine M_iload_n (pc := 3) C dL_goBack_3 rfl ?_
  refine M_cat (pc := 4) C hh1 (pre := []) (suf := [⟨0, 9, 15, 30⟩]) (x := ⟨0, 9, 12, 13⟩) rfl (fun z hz => nomatch hz) (by decide) (by decide) cl_13 ow_13 (a := 0) (c := 7) hR yw_X7_goBack ml_L_48 rfl (congrArg Prod.fst (tt_0 hT)) hc_7 rfl dL_goBack_4 rfl (Nat.le_of_ble_eq_true rfl) (Nat.le_refl _) ⟨by decide, by decide⟩ (Or.inl ⟨3, dL_goBack_12, by decide, rfl⟩) (fun N2 v1 hN2 hP => ?_)
  refine M_iconst (pc := 13) C dL_goBack_13 ?_
  exact M_toE (M_iretP (Post := fun r1 v1 => r1 = some (vI 1) ∧ PX v1) (pc := 14) C rfl dL_goBack_14 ⟨rfl, hP⟩) (fun r v1 h => ⟨h.1, hN2, rfl, h.2⟩)
theorem x_goBack_2 {N : Nat} {T : Ty} {v : Ct} {D : Nat} {x : Int} {PX : Ct → Prop} (hT : TT T) (hR : Thr mX7_goBack D 1 6 [vR 0, vI x] N T v "java/lang/IllegalStateException" PX) : RunsE mL_goBack hL_goBack (D + 1) 1 6 [vR 0, vI x, vR 95] N T v (fun r1 N1 T1 v1 => r1 = some (vI 2) ∧ N ≤ N1 ∧ T1 = T ∧ PX v1) := by
  refine RunsE.of (by decide) (Nat.le_of_ble_eq_true rfl) fun κ C hh1 => ?_
  refine M_aload_n (pc := 0) C dL_goBack_0 rfl (by decide) ?_
  refine M_iconst (pc := 1) C dL_goBack_1 ?_
  refine M_aload_n (pc := 2) C dL_goBack_2 rfl (by decide) ?_
  refine M_iload_n (pc := 3) C dL_goBack_3 rfl ?_
  refine M_cat (pc := 4) C hh1 (pre := [⟨0, 9, 12, 13⟩]) (suf := []) (x := ⟨0, 9, 15, 30⟩) rfl (fun z hz => by rw [List.mem_singleton.mp hz]; exact ⟨by decide, "java/lang/IllegalArgumentException", cl_13, by decide +kernel⟩) (by decide) (by decide) cl_30 ow_30 (a := 0) (c := 7) hR yw_X7_goBack ml_L_48 rfl (congrArg Prod.fst (tt_0 hT)) hc_7 rfl dL_goBack_4 rfl (Nat.le_of_ble_eq_true rfl) (Nat.le_refl _) ⟨by decide, by decide⟩ (Or.inl ⟨3, dL_goBack_15, by decide, rfl⟩) (fun N2 v1 hN2 hP => ?_)
  refine M_iconst (pc := 16) C dL_goBack_16 ?_
  exact M_toE (M_iretP (Post := fun r1 v1 => r1 = some (vI 2) ∧ PX v1) (pc := 17) C rfl dL_goBack_17 ⟨rfl, hP⟩) (fun r v1 h => ⟨h.1, hN2, rfl, h.2⟩)
abbrev mL_undo : MD := (yL_undo, cL_undo, 3, (some .int))
abbrev hL_undo : List (Nat × Nat × Nat × Nat) := [(0, 8, 11, 30)]
theorem ml_L_51 : Cond.methodLink RL 51 yX7_undo ∈ GW := GW_t (i := 791) (by decide +kernel) rfl
theorem w_undo {N : Nat} {T : Ty} {v : Ct} {D : Nat} {P : Option MV → Ct → Prop} (hT : TT T) (hR : RunsP mX7_undo D 0 0 [vR 0] N T v N T P) (hP : ∀ r1 v1, P r1 v1 → ∃ z, r1 = some (vI z)) : RunsE mL_undo hL_undo (D + 1) 1 6 [vR 0, vR 95] N T v (fun r1 N1 T1 v1 => r1 = some (vI 0) ∧ N1 = N ∧ T1 = T ∧ ∃ z v2, P (some (vI z)) v2 ∧ v1 = sa v2 95 (rs (v2 95) 0 (wr z))) := by
  refine RunsE.of (by decide) (Nat.le_of_ble_eq_true rfl) fun κ C hh1 => ?_
  refine M_aload_n (pc := 0) C dL_undo_0 rfl (by decide) ?_
  refine M_iconst (pc := 1) C dL_undo_1 ?_
  refine M_aload_n (pc := 2) C dL_undo_2 rfl (by decide) ?_
  refine A_pV (pc := 3) C (a := 0) (c := 7) hR yw_X7_undo lk_L_51 rfl (congrArg Prod.fst (tt_0 hT)) hc_7 rfl dL_undo_3 rfl (Nat.le_of_ble_eq_true rfl) (Nat.le_refl _) ⟨Nat.zero_le _, Nat.zero_le _⟩ (fun r_9 v_9 p_9 => ?_)
  obtain ⟨z, rfl⟩ := hP _ _ p_9
  refine M_wr (pc := 6) ?_
  refine M_i2l (pc := 6) C (wr_i32 _) dL_undo_6 ?_
  refine A_last (pc := 7) C (a := 95) (q := 0) rfl (tt_95 hT) (by decide) rfl (by decide) (wr_i32 _) dL_undo_7 ?_
  refine M_goto (pc := 8) C (tgt := 14) dL_undo_8 (by decide) ?_
  refine M_iconst (pc := 14) C dL_undo_14 ?_
  refine M.widen (k2 := 1) (n2 := 6) (Nat.zero_le _) (Nat.zero_le _) ?_
  exact M_toE (M_iretP (Post := fun r1 v1 => r1 = some (vI 0) ∧ ∃ z v2, P (some (vI z)) v2 ∧ v1 = sa v2 95 (rs (v2 95) 0 (wr z))) (pc := 15) C rfl dL_undo_15 ⟨rfl, z, v_9, p_9, up_sa _ _ _ _⟩) (fun r v1 h => ⟨h.1, rfl, rfl, h.2⟩)
theorem x_undo_1 {N : Nat} {T : Ty} {v : Ct} {D : Nat} {PX : Ct → Prop} (hT : TT T) (hR : Thr mX7_undo D 1 6 [vR 0] N T v "java/lang/IllegalStateException" PX) : RunsE mL_undo hL_undo (D + 1) 1 6 [vR 0, vR 95] N T v (fun r1 N1 T1 v1 => r1 = some (vI 1) ∧ N ≤ N1 ∧ T1 = T ∧ PX v1) := by
  refine RunsE.of (by decide) (Nat.le_of_ble_eq_true rfl) fun κ C hh1 => ?_
  refine M_aload_n (pc := 0) C dL_undo_0 rfl (by decide) ?_
  refine M_iconst (pc := 1) C dL_undo_1 ?_
  refine M_aload_n (pc := 2) C dL_undo_2 rfl (by decide) ?_
  refine M_cat (pc := 3) C hh1 (pre := []) (suf := []) (x := ⟨0, 8, 11, 30⟩) rfl (fun z hz => nomatch hz) (by decide) (by decide) cl_30 ow_30 (a := 0) (c := 7) hR yw_X7_undo ml_L_51 rfl (congrArg Prod.fst (tt_0 hT)) hc_7 rfl dL_undo_3 rfl (Nat.le_of_ble_eq_true rfl) (Nat.le_refl _) ⟨by decide, by decide⟩ (Or.inl ⟨2, dL_undo_11, by decide, rfl⟩) (fun N2 v1 hN2 hP => ?_)
  refine M_iconst (pc := 12) C dL_undo_12 ?_
  exact M_toE (M_iretP (Post := fun r1 v1 => r1 = some (vI 1) ∧ PX v1) (pc := 13) C rfl dL_undo_13 ⟨rfl, hP⟩) (fun r v1 h => ⟨h.1, hN2, rfl, h.2⟩)
abbrev mL_fileOf : MD := (yL_fileOf, cL_fileOf, 5, (some .int))
abbrev hL_fileOf : List (Nat × Nat × Nat × Nat) := [(0, 10, 13, 19), (0, 10, 17, 13)]
theorem ml_L_54 : Cond.methodLink RL 54 yX7_fileOf ∈ GW := GW_t (i := 803) (by decide +kernel) rfl
theorem w_fileOf {N : Nat} {T : Ty} {v : Ct} {D : Nat} {x y : Int} {P : Option MV → Ct → Prop} (hT : TT T) (hR : RunsP mX7_fileOf D 0 0 [vR 0, vI x, vI y] N T v N T P) (hP : ∀ r1 v1, P r1 v1 → ∃ z, r1 = some (vI z)) : RunsE mL_fileOf hL_fileOf (D + 1) 1 6 [vR 0, vI x, vI y, vR 95] N T v (fun r1 N1 T1 v1 => r1 = some (vI 0) ∧ N1 = N ∧ T1 = T ∧ ∃ z v2, P (some (vI z)) v2 ∧ v1 = sa v2 95 (rs (v2 95) 0 (wr z))) := by
  refine RunsE.of (by decide) (Nat.le_of_ble_eq_true rfl) fun κ C hh1 => ?_
  refine M_aload_n (pc := 0) C dL_fileOf_0 rfl (by decide) ?_
  refine M_iconst (pc := 1) C dL_fileOf_1 ?_
  refine M_aload_n (pc := 2) C dL_fileOf_2 rfl (by decide) ?_
  refine M_iload_n (pc := 3) C dL_fileOf_3 rfl ?_
  refine M_iload_n (pc := 4) C dL_fileOf_4 rfl ?_
  refine A_pV (pc := 5) C (a := 0) (c := 7) hR yw_X7_fileOf lk_L_54 rfl (congrArg Prod.fst (tt_0 hT)) hc_7 rfl dL_fileOf_5 rfl (Nat.le_of_ble_eq_true rfl) (Nat.le_refl _) ⟨Nat.zero_le _, Nat.zero_le _⟩ (fun r_9 v_9 p_9 => ?_)
  obtain ⟨z, rfl⟩ := hP _ _ p_9
  refine M_wr (pc := 8) ?_
  refine M_i2l (pc := 8) C (wr_i32 _) dL_fileOf_8 ?_
  refine A_last (pc := 9) C (a := 95) (q := 0) rfl (tt_95 hT) (by decide) rfl (by decide) (wr_i32 _) dL_fileOf_9 ?_
  refine M_goto (pc := 10) C (tgt := 21) dL_fileOf_10 (by decide) ?_
  refine M_iconst (pc := 21) C dL_fileOf_21 ?_
  refine M.widen (k2 := 1) (n2 := 6) (Nat.zero_le _) (Nat.zero_le _) ?_
  exact M_toE (M_iretP (Post := fun r1 v1 => r1 = some (vI 0) ∧ ∃ z v2, P (some (vI z)) v2 ∧ v1 = sa v2 95 (rs (v2 95) 0 (wr z))) (pc := 22) C rfl dL_fileOf_22 ⟨rfl, z, v_9, p_9, up_sa _ _ _ _⟩) (fun r v1 h => ⟨h.1, rfl, rfl, h.2⟩)
theorem x_fileOf_1 {N : Nat} {T : Ty} {v : Ct} {D : Nat} {x y : Int} {PX : Ct → Prop} (hT : TT T) (hR : Thr mX7_fileOf D 1 6 [vR 0, vI x, vI y] N T v "java/lang/IndexOutOfBoundsException" PX) : RunsE mL_fileOf hL_fileOf (D + 1) 1 6 [vR 0, vI x, vI y, vR 95] N T v (fun r1 N1 T1 v1 => r1 = some (vI 1) ∧ N ≤ N1 ∧ T1 = T ∧ PX v1) := by
  refine RunsE.of (by decide) (Nat.le_of_ble_eq_true rfl) fun κ C hh1 => ?_
  refine M_aload_n (pc := 0) C dL_fileOf_0 rfl (by decide) ?_
  refine M_iconst (pc := 1) C dL_fileOf_1 ?_
  refine M_aload_n (pc := 2) C dL_fileOf_2 rfl (by decide) ?_
  refine M_iload_n (pc := 3) C dL_fileOf_3 rfl ?_
  refine M_iload_n (pc := 4) C dL_fileOf_4 rfl ?_
  refine M_cat (pc := 5) C hh1 (pre := []) (suf := [⟨0, 10, 17, 13⟩]) (x := ⟨0, 10, 13, 19⟩) rfl (fun z hz => nomatch hz) (by decide) (by decide) cl_19 ow_19 (a := 0) (c := 7) hR yw_X7_fileOf ml_L_54 rfl (congrArg Prod.fst (tt_0 hT)) hc_7 rfl dL_fileOf_5 rfl (Nat.le_of_ble_eq_true rfl) (Nat.le_refl _) ⟨by decide, by decide⟩ (Or.inr ⟨4, dL_fileOf_13, by decide, rfl⟩) (fun N2 v1 hN2 hP => ?_)
  refine M_iconst (pc := 15) C dL_fileOf_15 ?_
  exact M_toE (M_iretP (Post := fun r1 v1 => r1 = some (vI 1) ∧ PX v1) (pc := 16) C rfl dL_fileOf_16 ⟨rfl, hP⟩) (fun r v1 h => ⟨h.1, hN2, rfl, h.2⟩)
theorem x_fileOf_2 {N : Nat} {T : Ty} {v : Ct} {D : Nat} {x y : Int} {PX : Ct → Prop} (hT : TT T) (hR : Thr mX7_fileOf D 1 6 [vR 0, vI x, vI y] N T v "java/lang/IllegalArgumentException" PX) : RunsE mL_fileOf hL_fileOf (D + 1) 1 6 [vR 0, vI x, vI y, vR 95] N T v (fun r1 N1 T1 v1 => r1 = some (vI 2) ∧ N ≤ N1 ∧ T1 = T ∧ PX v1) := by
  refine RunsE.of (by decide) (Nat.le_of_ble_eq_true rfl) fun κ C hh1 => ?_
  refine M_aload_n (pc := 0) C dL_fileOf_0 rfl (by decide) ?_
  refine M_iconst (pc := 1) C dL_fileOf_1 ?_
  refine M_aload_n (pc := 2) C dL_fileOf_2 rfl (by decide) ?_
  refine M_iload_n (pc := 3) C dL_fileOf_3 rfl ?_
  refine M_iload_n (pc := 4) C dL_fileOf_4 rfl ?_
  refine M_cat (pc := 5) C hh1 (pre := [⟨0, 10, 13, 19⟩]) (suf := []) (x := ⟨0, 10, 17, 13⟩) rfl (fun z hz => by rw [List.mem_singleton.mp hz]; exact ⟨by decide, "java/lang/IndexOutOfBoundsException", cl_19, by decide +kernel⟩) (by decide) (by decide) cl_13 ow_13 (a := 0) (c := 7) hR yw_X7_fileOf ml_L_54 rfl (congrArg Prod.fst (tt_0 hT)) hc_7 rfl dL_fileOf_5 rfl (Nat.le_of_ble_eq_true rfl) (Nat.le_refl _) ⟨by decide, by decide⟩ (Or.inr ⟨4, dL_fileOf_17, by decide, rfl⟩) (fun N2 v1 hN2 hP => ?_)
  refine M_iconst (pc := 19) C dL_fileOf_19 ?_
  exact M_toE (M_iretP (Post := fun r1 v1 => r1 = some (vI 2) ∧ PX v1) (pc := 20) C rfl dL_fileOf_20 ⟨rfl, hP⟩) (fun r v1 h => ⟨h.1, hN2, rfl, h.2⟩)
abbrev mL_place : MD := (yL_place, cL_place, 5, (some .int))
abbrev hL_place : List (Nat × Nat × Nat × Nat) := [(0, 10, 13, 19)]
theorem ml_L_57 : Cond.methodLink RL 57 yX7_place ∈ GW := GW_t (i := 810) (by decide +kernel) rfl
theorem w_place {N : Nat} {T : Ty} {v : Ct} {D : Nat} {x y : Int} {P : Option MV → Ct → Prop} (hT : TT T) (hR : RunsP mX7_place D 0 0 [vR 0, vI x, vI y] N T v N T P) (hP : ∀ r1 v1, P r1 v1 → ∃ z, r1 = some (vI z)) : RunsE mL_place hL_place (D + 1) 1 6 [vR 0, vI x, vI y, vR 95] N T v (fun r1 N1 T1 v1 => r1 = some (vI 0) ∧ N1 = N ∧ T1 = T ∧ ∃ z v2, P (some (vI z)) v2 ∧ v1 = sa v2 95 (rs (v2 95) 0 (wr z))) := by
  refine RunsE.of (by decide) (Nat.le_of_ble_eq_true rfl) fun κ C hh1 => ?_
  refine M_aload_n (pc := 0) C dL_place_0 rfl (by decide) ?_
  refine M_iconst (pc := 1) C dL_place_1 ?_
  refine M_aload_n (pc := 2) C dL_place_2 rfl (by decide) ?_
  refine M_iload_n (pc := 3) C dL_place_3 rfl ?_
  refine M_iload_n (pc := 4) C dL_place_4 rfl ?_
  refine A_pV (pc := 5) C (a := 0) (c := 7) hR yw_X7_place lk_L_57 rfl (congrArg Prod.fst (tt_0 hT)) hc_7 rfl dL_place_5 rfl (Nat.le_of_ble_eq_true rfl) (Nat.le_refl _) ⟨Nat.zero_le _, Nat.zero_le _⟩ (fun r_9 v_9 p_9 => ?_)
  obtain ⟨z, rfl⟩ := hP _ _ p_9
  refine M_wr (pc := 8) ?_
  refine M_i2l (pc := 8) C (wr_i32 _) dL_place_8 ?_
  refine A_last (pc := 9) C (a := 95) (q := 0) rfl (tt_95 hT) (by decide) rfl (by decide) (wr_i32 _) dL_place_9 ?_
  refine M_goto (pc := 10) C (tgt := 17) dL_place_10 (by decide) ?_
  refine M_iconst (pc := 17) C dL_place_17 ?_
  refine M.widen (k2 := 1) (n2 := 6) (Nat.zero_le _) (Nat.zero_le _) ?_
  exact M_toE (M_iretP (Post := fun r1 v1 => r1 = some (vI 0) ∧ ∃ z v2, P (some (vI z)) v2 ∧ v1 = sa v2 95 (rs (v2 95) 0 (wr z))) (pc := 18) C rfl dL_place_18 ⟨rfl, z, v_9, p_9, up_sa _ _ _ _⟩) (fun r v1 h => ⟨h.1, rfl, rfl, h.2⟩)
theorem x_place_1 {N : Nat} {T : Ty} {v : Ct} {D : Nat} {x y : Int} {PX : Ct → Prop} (hT : TT T) (hR : Thr mX7_place D 1 6 [vR 0, vI x, vI y] N T v "java/lang/IndexOutOfBoundsException" PX) : RunsE mL_place hL_place (D + 1) 1 6 [vR 0, vI x, vI y, vR 95] N T v (fun r1 N1 T1 v1 => r1 = some (vI 1) ∧ N ≤ N1 ∧ T1 = T ∧ PX v1) := by
  refine RunsE.of (by decide) (Nat.le_of_ble_eq_true rfl) fun κ C hh1 => ?_
  refine M_aload_n (pc := 0) C dL_place_0 rfl (by decide) ?_
  refine M_iconst (pc := 1) C dL_place_1 ?_
  refine M_aload_n (pc := 2) C dL_place_2 rfl (by decide) ?_
  refine M_iload_n (pc := 3) C dL_place_3 rfl ?_
  refine M_iload_n (pc := 4) C dL_place_4 rfl ?_
  refine M_cat (pc := 5) C hh1 (pre := []) (suf := []) (x := ⟨0, 10, 13, 19⟩) rfl (fun z hz => nomatch hz) (by decide) (by decide) cl_19 ow_19 (a := 0) (c := 7) hR yw_X7_place ml_L_57 rfl (congrArg Prod.fst (tt_0 hT)) hc_7 rfl dL_place_5 rfl (Nat.le_of_ble_eq_true rfl) (Nat.le_refl _) ⟨by decide, by decide⟩ (Or.inr ⟨4, dL_place_13, by decide, rfl⟩) (fun N2 v1 hN2 hP => ?_)
  refine M_iconst (pc := 15) C dL_place_15 ?_
  exact M_toE (M_iretP (Post := fun r1 v1 => r1 = some (vI 1) ∧ PX v1) (pc := 16) C rfl dL_place_16 ⟨rfl, hP⟩) (fun r v1 h => ⟨h.1, hN2, rfl, h.2⟩)
abbrev mL_blockOf : MD := (yL_blockOf, cL_blockOf, 5, (some .int))
abbrev hL_blockOf : List (Nat × Nat × Nat × Nat) := [(0, 10, 13, 19), (0, 10, 17, 13)]
theorem ml_L_60 : Cond.methodLink RL 60 yX7_blockOf ∈ GW := GW_t (i := 818) (by decide +kernel) rfl
theorem w_blockOf {N : Nat} {T : Ty} {v : Ct} {D : Nat} {x y : Int} {P : Option MV → Ct → Prop} (hT : TT T) (hR : RunsP mX7_blockOf D 0 0 [vR 0, vI x, vI y] N T v N T P) (hP : ∀ r1 v1, P r1 v1 → ∃ z, r1 = some (vI z)) : RunsE mL_blockOf hL_blockOf (D + 1) 1 6 [vR 0, vI x, vI y, vR 95] N T v (fun r1 N1 T1 v1 => r1 = some (vI 0) ∧ N1 = N ∧ T1 = T ∧ ∃ z v2, P (some (vI z)) v2 ∧ v1 = sa v2 95 (rs (v2 95) 0 (wr z))) := by
  refine RunsE.of (by decide) (Nat.le_of_ble_eq_true rfl) fun κ C hh1 => ?_
  refine M_aload_n (pc := 0) C dL_blockOf_0 rfl (by decide) ?_
  refine M_iconst (pc := 1) C dL_blockOf_1 ?_
  refine M_aload_n (pc := 2) C dL_blockOf_2 rfl (by decide) ?_
  refine M_iload_n (pc := 3) C dL_blockOf_3 rfl ?_
  refine M_iload_n (pc := 4) C dL_blockOf_4 rfl ?_
  refine A_pV (pc := 5) C (a := 0) (c := 7) hR yw_X7_blockOf lk_L_60 rfl (congrArg Prod.fst (tt_0 hT)) hc_7 rfl dL_blockOf_5 rfl (Nat.le_of_ble_eq_true rfl) (Nat.le_refl _) ⟨Nat.zero_le _, Nat.zero_le _⟩ (fun r_9 v_9 p_9 => ?_)
  obtain ⟨z, rfl⟩ := hP _ _ p_9
  refine M_wr (pc := 8) ?_
  refine M_i2l (pc := 8) C (wr_i32 _) dL_blockOf_8 ?_
  refine A_last (pc := 9) C (a := 95) (q := 0) rfl (tt_95 hT) (by decide) rfl (by decide) (wr_i32 _) dL_blockOf_9 ?_
  refine M_goto (pc := 10) C (tgt := 21) dL_blockOf_10 (by decide) ?_
  refine M_iconst (pc := 21) C dL_blockOf_21 ?_
  refine M.widen (k2 := 1) (n2 := 6) (Nat.zero_le _) (Nat.zero_le _) ?_
  exact M_toE (M_iretP (Post := fun r1 v1 => r1 = some (vI 0) ∧ ∃ z v2, P (some (vI z)) v2 ∧ v1 = sa v2 95 (rs (v2 95) 0 (wr z))) (pc := 22) C rfl dL_blockOf_22 ⟨rfl, z, v_9, p_9, up_sa _ _ _ _⟩) (fun r v1 h => ⟨h.1, rfl, rfl, h.2⟩)
theorem x_blockOf_1 {N : Nat} {T : Ty} {v : Ct} {D : Nat} {x y : Int} {PX : Ct → Prop} (hT : TT T) (hR : Thr mX7_blockOf D 1 6 [vR 0, vI x, vI y] N T v "java/lang/IndexOutOfBoundsException" PX) : RunsE mL_blockOf hL_blockOf (D + 1) 1 6 [vR 0, vI x, vI y, vR 95] N T v (fun r1 N1 T1 v1 => r1 = some (vI 1) ∧ N ≤ N1 ∧ T1 = T ∧ PX v1) := by
  refine RunsE.of (by decide) (Nat.le_of_ble_eq_true rfl) fun κ C hh1 => ?_
  refine M_aload_n (pc := 0) C dL_blockOf_0 rfl (by decide) ?_
  refine M_iconst (pc := 1) C dL_blockOf_1 ?_
  refine M_aload_n (pc := 2) C dL_blockOf_2 rfl (by decide) ?_
  refine M_iload_n (pc := 3) C dL_blockOf_3 rfl ?_
  refine M_iload_n (pc := 4) C dL_blockOf_4 rfl ?_
  refine M_cat (pc := 5) C hh1 (pre := []) (suf := [⟨0, 10, 17, 13⟩]) (x := ⟨0, 10, 13, 19⟩) rfl (fun z hz => nomatch hz) (by decide) (by decide) cl_19 ow_19 (a := 0) (c := 7) hR yw_X7_blockOf ml_L_60 rfl (congrArg Prod.fst (tt_0 hT)) hc_7 rfl dL_blockOf_5 rfl (Nat.le_of_ble_eq_true rfl) (Nat.le_refl _) ⟨by decide, by decide⟩ (Or.inr ⟨4, dL_blockOf_13, by decide, rfl⟩) (fun N2 v1 hN2 hP => ?_)
  refine M_iconst (pc := 15) C dL_blockOf_15 ?_
  exact M_toE (M_iretP (Post := fun r1 v1 => r1 = some (vI 1) ∧ PX v1) (pc := 16) C rfl dL_blockOf_16 ⟨rfl, hP⟩) (fun r v1 h => ⟨h.1, hN2, rfl, h.2⟩)
theorem x_blockOf_2 {N : Nat} {T : Ty} {v : Ct} {D : Nat} {x y : Int} {PX : Ct → Prop} (hT : TT T) (hR : Thr mX7_blockOf D 1 6 [vR 0, vI x, vI y] N T v "java/lang/IllegalArgumentException" PX) : RunsE mL_blockOf hL_blockOf (D + 1) 1 6 [vR 0, vI x, vI y, vR 95] N T v (fun r1 N1 T1 v1 => r1 = some (vI 2) ∧ N ≤ N1 ∧ T1 = T ∧ PX v1) := by
  refine RunsE.of (by decide) (Nat.le_of_ble_eq_true rfl) fun κ C hh1 => ?_
  refine M_aload_n (pc := 0) C dL_blockOf_0 rfl (by decide) ?_
  refine M_iconst (pc := 1) C dL_blockOf_1 ?_
  refine M_aload_n (pc := 2) C dL_blockOf_2 rfl (by decide) ?_
  refine M_iload_n (pc := 3) C dL_blockOf_3 rfl ?_
  refine M_iload_n (pc := 4) C dL_blockOf_4 rfl ?_
  refine M_cat (pc := 5) C hh1 (pre := [⟨0, 10, 13, 19⟩]) (suf := []) (x := ⟨0, 10, 17, 13⟩) rfl (fun z hz => by rw [List.mem_singleton.mp hz]; exact ⟨by decide, "java/lang/IndexOutOfBoundsException", cl_19, by decide +kernel⟩) (by decide) (by decide) cl_13 ow_13 (a := 0) (c := 7) hR yw_X7_blockOf ml_L_60 rfl (congrArg Prod.fst (tt_0 hT)) hc_7 rfl dL_blockOf_5 rfl (Nat.le_of_ble_eq_true rfl) (Nat.le_refl _) ⟨by decide, by decide⟩ (Or.inr ⟨4, dL_blockOf_17, by decide, rfl⟩) (fun N2 v1 hN2 hP => ?_)
  refine M_iconst (pc := 19) C dL_blockOf_19 ?_
  exact M_toE (M_iretP (Post := fun r1 v1 => r1 = some (vI 2) ∧ PX v1) (pc := 20) C rfl dL_blockOf_20 ⟨rfl, hP⟩) (fun r v1 h => ⟨h.1, hN2, rfl, h.2⟩)
abbrev mL_count : MD := (yL_count, cL_count, 4, (some .int))
abbrev hL_count : List (Nat × Nat × Nat × Nat) := [(0, 9, 12, 13)]
theorem ml_L_63 : Cond.methodLink RL 63 yX7_count ∈ GW := GW_t (i := 825) (by decide +kernel) rfl
theorem w_count {N : Nat} {T : Ty} {v : Ct} {D : Nat} {x : Int} {P : Option MV → Ct → Prop} (hT : TT T) (hR : RunsP mX7_count D 0 0 [vR 0, vI x] N T v N T P) (hP : ∀ r1 v1, P r1 v1 → ∃ z, r1 = some (vI z)) : RunsE mL_count hL_count (D + 1) 1 6 [vR 0, vI x, vR 95] N T v (fun r1 N1 T1 v1 => r1 = some (vI 0) ∧ N1 = N ∧ T1 = T ∧ ∃ z v2, P (some (vI z)) v2 ∧ v1 = sa v2 95 (rs (v2 95) 0 (wr z))) := by
  refine RunsE.of (by decide) (Nat.le_of_ble_eq_true rfl) fun κ C hh1 => ?_
  refine M_aload_n (pc := 0) C dL_count_0 rfl (by decide) ?_
  refine M_iconst (pc := 1) C dL_count_1 ?_
  refine M_aload_n (pc := 2) C dL_count_2 rfl (by decide) ?_
  refine M_iload_n (pc := 3) C dL_count_3 rfl ?_
  refine A_pV (pc := 4) C (a := 0) (c := 7) hR yw_X7_count lk_L_63 rfl (congrArg Prod.fst (tt_0 hT)) hc_7 rfl dL_count_4 rfl (Nat.le_of_ble_eq_true rfl) (Nat.le_refl _) ⟨Nat.zero_le _, Nat.zero_le _⟩ (fun r_9 v_9 p_9 => ?_)
  obtain ⟨z, rfl⟩ := hP _ _ p_9
  refine M_wr (pc := 7) ?_
  refine M_i2l (pc := 7) C (wr_i32 _) dL_count_7 ?_
  refine A_last (pc := 8) C (a := 95) (q := 0) rfl (tt_95 hT) (by decide) rfl (by decide) (wr_i32 _) dL_count_8 ?_
  refine M_goto (pc := 9) C (tgt := 15) dL_count_9 (by decide) ?_
  refine M_iconst (pc := 15) C dL_count_15 ?_
  refine M.widen (k2 := 1) (n2 := 6) (Nat.zero_le _) (Nat.zero_le _) ?_
  exact M_toE (M_iretP (Post := fun r1 v1 => r1 = some (vI 0) ∧ ∃ z v2, P (some (vI z)) v2 ∧ v1 = sa v2 95 (rs (v2 95) 0 (wr z))) (pc := 16) C rfl dL_count_16 ⟨rfl, z, v_9, p_9, up_sa _ _ _ _⟩) (fun r v1 h => ⟨h.1, rfl, rfl, h.2⟩)
theorem x_count_1 {N : Nat} {T : Ty} {v : Ct} {D : Nat} {x : Int} {PX : Ct → Prop} (hT : TT T) (hR : Thr mX7_count D 1 6 [vR 0, vI x] N T v "java/lang/IllegalArgumentException" PX) : RunsE mL_count hL_count (D + 1) 1 6 [vR 0, vI x, vR 95] N T v (fun r1 N1 T1 v1 => r1 = some (vI 1) ∧ N ≤ N1 ∧ T1 = T ∧ PX v1) := by
  refine RunsE.of (by decide) (Nat.le_of_ble_eq_true rfl) fun κ C hh1 => ?_
  refine M_aload_n (pc := 0) C dL_count_0 rfl (by decide) ?_
  refine M_iconst (pc := 1) C dL_count_1 ?_
  refine M_aload_n (pc := 2) C dL_count_2 rfl (by decide) ?_
  refine M_iload_n (pc := 3) C dL_count_3 rfl ?_
  refine M_cat (pc := 4) C hh1 (pre := []) (suf := []) (x := ⟨0, 9, 12, 13⟩) rfl (fun z hz => nomatch hz) (by decide) (by decide) cl_13 ow_13 (a := 0) (c := 7) hR yw_X7_count ml_L_63 rfl (congrArg Prod.fst (tt_0 hT)) hc_7 rfl dL_count_4 rfl (Nat.le_of_ble_eq_true rfl) (Nat.le_refl _) ⟨by decide, by decide⟩ (Or.inl ⟨3, dL_count_12, by decide, rfl⟩) (fun N2 v1 hN2 hP => ?_)
  refine M_iconst (pc := 13) C dL_count_13 ?_
  exact M_toE (M_iretP (Post := fun r1 v1 => r1 = some (vI 1) ∧ PX v1) (pc := 14) C rfl dL_count_14 ⟨rfl, hP⟩) (fun r v1 h => ⟨h.1, hN2, rfl, h.2⟩)
abbrev mL_ifPlaced : MD := (yL_ifPlaced, cL_ifPlaced, 4, (some .int))
abbrev hL_ifPlaced : List (Nat × Nat × Nat × Nat) := [(0, 9, 12, 13)]
theorem ml_L_66 : Cond.methodLink RL 66 yX7_ifPlaced ∈ GW := GW_t (i := 829) (by decide +kernel) rfl
theorem w_ifPlaced {N : Nat} {T : Ty} {v : Ct} {D : Nat} {x : Int} {P : Option MV → Ct → Prop} (hT : TT T) (hR : RunsP mX7_ifPlaced D 0 0 [vR 0, vI x] N T v N T P) (hP : ∀ r1 v1, P r1 v1 → ∃ z, r1 = some (vI z)) : RunsE mL_ifPlaced hL_ifPlaced (D + 1) 1 6 [vR 0, vI x, vR 95] N T v (fun r1 N1 T1 v1 => r1 = some (vI 0) ∧ N1 = N ∧ T1 = T ∧ ∃ z v2, P (some (vI z)) v2 ∧ v1 = sa v2 95 (rs (v2 95) 0 (wr z))) := by
  refine RunsE.of (by decide) (Nat.le_of_ble_eq_true rfl) fun κ C hh1 => ?_
  refine M_aload_n (pc := 0) C dL_ifPlaced_0 rfl (by decide) ?_
  refine M_iconst (pc := 1) C dL_ifPlaced_1 ?_
  refine M_aload_n (pc := 2) C dL_ifPlaced_2 rfl (by decide) ?_
  refine M_iload_n (pc := 3) C dL_ifPlaced_3 rfl ?_
  refine A_pV (pc := 4) C (a := 0) (c := 7) hR yw_X7_ifPlaced lk_L_66 rfl (congrArg Prod.fst (tt_0 hT)) hc_7 rfl dL_ifPlaced_4 rfl (Nat.le_of_ble_eq_true rfl) (Nat.le_refl _) ⟨Nat.zero_le _, Nat.zero_le _⟩ (fun r_9 v_9 p_9 => ?_)
  obtain ⟨z, rfl⟩ := hP _ _ p_9
  refine M_wr (pc := 7) ?_
  refine M_i2l (pc := 7) C (wr_i32 _) dL_ifPlaced_7 ?_
  refine A_last (pc := 8) C (a := 95) (q := 0) rfl (tt_95 hT) (by decide) rfl (by decide) (wr_i32 _) dL_ifPlaced_8 ?_
  refine M_goto (pc := 9) C (tgt := 15) dL_ifPlaced_9 (by decide) ?_
  refine M_iconst (pc := 15) C dL_ifPlaced_15 ?_
  refine M.widen (k2 := 1) (n2 := 6) (Nat.zero_le _) (Nat.zero_le _) ?_
  exact M_toE (M_iretP (Post := fun r1 v1 => r1 = some (vI 0) ∧ ∃ z v2, P (some (vI z)) v2 ∧ v1 = sa v2 95 (rs (v2 95) 0 (wr z))) (pc := 16) C rfl dL_ifPlaced_16 ⟨rfl, z, v_9, p_9, up_sa _ _ _ _⟩) (fun r v1 h => ⟨h.1, rfl, rfl, h.2⟩)
theorem x_ifPlaced_1 {N : Nat} {T : Ty} {v : Ct} {D : Nat} {x : Int} {PX : Ct → Prop} (hT : TT T) (hR : Thr mX7_ifPlaced D 1 6 [vR 0, vI x] N T v "java/lang/IllegalArgumentException" PX) : RunsE mL_ifPlaced hL_ifPlaced (D + 1) 1 6 [vR 0, vI x, vR 95] N T v (fun r1 N1 T1 v1 => r1 = some (vI 1) ∧ N ≤ N1 ∧ T1 = T ∧ PX v1) := by
  refine RunsE.of (by decide) (Nat.le_of_ble_eq_true rfl) fun κ C hh1 => ?_
  refine M_aload_n (pc := 0) C dL_ifPlaced_0 rfl (by decide) ?_
  refine M_iconst (pc := 1) C dL_ifPlaced_1 ?_
  refine M_aload_n (pc := 2) C dL_ifPlaced_2 rfl (by decide) ?_
  refine M_iload_n (pc := 3) C dL_ifPlaced_3 rfl ?_
  refine M_cat (pc := 4) C hh1 (pre := []) (suf := []) (x := ⟨0, 9, 12, 13⟩) rfl (fun z hz => nomatch hz) (by decide) (by decide) cl_13 ow_13 (a := 0) (c := 7) hR yw_X7_ifPlaced ml_L_66 rfl (congrArg Prod.fst (tt_0 hT)) hc_7 rfl dL_ifPlaced_4 rfl (Nat.le_of_ble_eq_true rfl) (Nat.le_refl _) ⟨by decide, by decide⟩ (Or.inl ⟨3, dL_ifPlaced_12, by decide, rfl⟩) (fun N2 v1 hN2 hP => ?_)
  refine M_iconst (pc := 13) C dL_ifPlaced_13 ?_
  exact M_toE (M_iretP (Post := fun r1 v1 => r1 = some (vI 1) ∧ PX v1) (pc := 14) C rfl dL_ifPlaced_14 ⟨rfl, hP⟩) (fun r v1 h => ⟨h.1, hN2, rfl, h.2⟩)
abbrev mL_ifGrown : MD := (yL_ifGrown, cL_ifGrown, 5, (some .int))
abbrev hL_ifGrown : List (Nat × Nat × Nat × Nat) := [(0, 10, 13, 19), (0, 10, 17, 13)]
theorem ml_L_69 : Cond.methodLink RL 69 yX7_ifGrown ∈ GW := GW_t (i := 836) (by decide +kernel) rfl
theorem w_ifGrown {N : Nat} {T : Ty} {v : Ct} {D : Nat} {x y : Int} {P : Option MV → Ct → Prop} (hT : TT T) (hR : RunsP mX7_ifGrown D 0 0 [vR 0, vI x, vI y] N T v N T P) (hP : ∀ r1 v1, P r1 v1 → ∃ z, r1 = some (vI z)) : RunsE mL_ifGrown hL_ifGrown (D + 1) 1 6 [vR 0, vI x, vI y, vR 95] N T v (fun r1 N1 T1 v1 => r1 = some (vI 0) ∧ N1 = N ∧ T1 = T ∧ ∃ z v2, P (some (vI z)) v2 ∧ v1 = sa v2 95 (rs (v2 95) 0 (wr z))) := by
  refine RunsE.of (by decide) (Nat.le_of_ble_eq_true rfl) fun κ C hh1 => ?_
  refine M_aload_n (pc := 0) C dL_ifGrown_0 rfl (by decide) ?_
  refine M_iconst (pc := 1) C dL_ifGrown_1 ?_
  refine M_aload_n (pc := 2) C dL_ifGrown_2 rfl (by decide) ?_
  refine M_iload_n (pc := 3) C dL_ifGrown_3 rfl ?_
  refine M_iload_n (pc := 4) C dL_ifGrown_4 rfl ?_
  refine A_pV (pc := 5) C (a := 0) (c := 7) hR yw_X7_ifGrown lk_L_69 rfl (congrArg Prod.fst (tt_0 hT)) hc_7 rfl dL_ifGrown_5 rfl (Nat.le_of_ble_eq_true rfl) (Nat.le_refl _) ⟨Nat.zero_le _, Nat.zero_le _⟩ (fun r_9 v_9 p_9 => ?_)
  obtain ⟨z, rfl⟩ := hP _ _ p_9
  refine M_wr (pc := 8) ?_
  refine M_i2l (pc := 8) C (wr_i32 _) dL_ifGrown_8 ?_
  refine A_last (pc := 9) C (a := 95) (q := 0) rfl (tt_95 hT) (by decide) rfl (by decide) (wr_i32 _) dL_ifGrown_9 ?_
  refine M_goto (pc := 10) C (tgt := 21) dL_ifGrown_10 (by decide) ?_
  refine M_iconst (pc := 21) C dL_ifGrown_21 ?_
  refine M.widen (k2 := 1) (n2 := 6) (Nat.zero_le _) (Nat.zero_le _) ?_
  exact M_toE (M_iretP (Post := fun r1 v1 => r1 = some (vI 0) ∧ ∃ z v2, P (some (vI z)) v2 ∧ v1 = sa v2 95 (rs (v2 95) 0 (wr z))) (pc := 22) C rfl dL_ifGrown_22 ⟨rfl, z, v_9, p_9, up_sa _ _ _ _⟩) (fun r v1 h => ⟨h.1, rfl, rfl, h.2⟩)
theorem x_ifGrown_1 {N : Nat} {T : Ty} {v : Ct} {D : Nat} {x y : Int} {PX : Ct → Prop} (hT : TT T) (hR : Thr mX7_ifGrown D 1 6 [vR 0, vI x, vI y] N T v "java/lang/IndexOutOfBoundsException" PX) : RunsE mL_ifGrown hL_ifGrown (D + 1) 1 6 [vR 0, vI x, vI y, vR 95] N T v (fun r1 N1 T1 v1 => r1 = some (vI 1) ∧ N ≤ N1 ∧ T1 = T ∧ PX v1) := by
  refine RunsE.of (by decide) (Nat.le_of_ble_eq_true rfl) fun κ C hh1 => ?_
  refine M_aload_n (pc := 0) C dL_ifGrown_0 rfl (by decide) ?_
  refine M_iconst (pc := 1) C dL_ifGrown_1 ?_
  refine M_aload_n (pc := 2) C dL_ifGrown_2 rfl (by decide) ?_
  refine M_iload_n (pc := 3) C dL_ifGrown_3 rfl ?_
  refine M_iload_n (pc := 4) C dL_ifGrown_4 rfl ?_
  refine M_cat (pc := 5) C hh1 (pre := []) (suf := [⟨0, 10, 17, 13⟩]) (x := ⟨0, 10, 13, 19⟩) rfl (fun z hz => nomatch hz) (by decide) (by decide) cl_19 ow_19 (a := 0) (c := 7) hR yw_X7_ifGrown ml_L_69 rfl (congrArg Prod.fst (tt_0 hT)) hc_7 rfl dL_ifGrown_5 rfl (Nat.le_of_ble_eq_true rfl) (Nat.le_refl _) ⟨by decide, by decide⟩ (Or.inr ⟨4, dL_ifGrown_13, by decide, rfl⟩) (fun N2 v1 hN2 hP => ?_)
  refine M_iconst (pc := 15) C dL_ifGrown_15 ?_
  exact M_toE (M_iretP (Post := fun r1 v1 => r1 = some (vI 1) ∧ PX v1) (pc := 16) C rfl dL_ifGrown_16 ⟨rfl, hP⟩) (fun r v1 h => ⟨h.1, hN2, rfl, h.2⟩)
theorem x_ifGrown_2 {N : Nat} {T : Ty} {v : Ct} {D : Nat} {x y : Int} {PX : Ct → Prop} (hT : TT T) (hR : Thr mX7_ifGrown D 1 6 [vR 0, vI x, vI y] N T v "java/lang/IllegalArgumentException" PX) : RunsE mL_ifGrown hL_ifGrown (D + 1) 1 6 [vR 0, vI x, vI y, vR 95] N T v (fun r1 N1 T1 v1 => r1 = some (vI 2) ∧ N ≤ N1 ∧ T1 = T ∧ PX v1) := by
  refine RunsE.of (by decide) (Nat.le_of_ble_eq_true rfl) fun κ C hh1 => ?_
  refine M_aload_n (pc := 0) C dL_ifGrown_0 rfl (by decide) ?_
  refine M_iconst (pc := 1) C dL_ifGrown_1 ?_
  refine M_aload_n (pc := 2) C dL_ifGrown_2 rfl (by decide) ?_
  refine M_iload_n (pc := 3) C dL_ifGrown_3 rfl ?_
  refine M_iload_n (pc := 4) C dL_ifGrown_4 rfl ?_
  refine M_cat (pc := 5) C hh1 (pre := [⟨0, 10, 13, 19⟩]) (suf := []) (x := ⟨0, 10, 17, 13⟩) rfl (fun z hz => by rw [List.mem_singleton.mp hz]; exact ⟨by decide, "java/lang/IndexOutOfBoundsException", cl_19, by decide +kernel⟩) (by decide) (by decide) cl_13 ow_13 (a := 0) (c := 7) hR yw_X7_ifGrown ml_L_69 rfl (congrArg Prod.fst (tt_0 hT)) hc_7 rfl dL_ifGrown_5 rfl (Nat.le_of_ble_eq_true rfl) (Nat.le_refl _) ⟨by decide, by decide⟩ (Or.inr ⟨4, dL_ifGrown_17, by decide, rfl⟩) (fun N2 v1 hN2 hP => ?_)
  refine M_iconst (pc := 19) C dL_ifGrown_19 ?_
  exact M_toE (M_iretP (Post := fun r1 v1 => r1 = some (vI 2) ∧ PX v1) (pc := 20) C rfl dL_ifGrown_20 ⟨rfl, hP⟩) (fun r v1 h => ⟨h.1, hN2, rfl, h.2⟩)
abbrev mL_fewest : MD := (yL_fewest, cL_fewest, 4, (some .int))
abbrev hL_fewest : List (Nat × Nat × Nat × Nat) := [(0, 9, 12, 13)]
theorem ml_L_72 : Cond.methodLink RL 72 yX7_fewest ∈ GW := GW_t (i := 843) (by decide +kernel) rfl
theorem w_fewest {N : Nat} {T : Ty} {v : Ct} {D : Nat} {x : Int} {P : Option MV → Ct → Prop} (hT : TT T) (hR : RunsP mX7_fewest D 0 0 [vR 0, vI x] N T v N T P) (hP : ∀ r1 v1, P r1 v1 → ∃ z, r1 = some (vI z)) : RunsE mL_fewest hL_fewest (D + 1) 1 6 [vR 0, vI x, vR 95] N T v (fun r1 N1 T1 v1 => r1 = some (vI 0) ∧ N1 = N ∧ T1 = T ∧ ∃ z v2, P (some (vI z)) v2 ∧ v1 = sa v2 95 (rs (v2 95) 0 (wr z))) := by
  refine RunsE.of (by decide) (Nat.le_of_ble_eq_true rfl) fun κ C hh1 => ?_
  refine M_aload_n (pc := 0) C dL_fewest_0 rfl (by decide) ?_
  refine M_iconst (pc := 1) C dL_fewest_1 ?_
  refine M_aload_n (pc := 2) C dL_fewest_2 rfl (by decide) ?_
  refine M_iload_n (pc := 3) C dL_fewest_3 rfl ?_
  refine A_pV (pc := 4) C (a := 0) (c := 7) hR yw_X7_fewest lk_L_72 rfl (congrArg Prod.fst (tt_0 hT)) hc_7 rfl dL_fewest_4 rfl (Nat.le_of_ble_eq_true rfl) (Nat.le_refl _) ⟨Nat.zero_le _, Nat.zero_le _⟩ (fun r_9 v_9 p_9 => ?_)
  obtain ⟨z, rfl⟩ := hP _ _ p_9
  refine M_wr (pc := 7) ?_
  refine M_i2l (pc := 7) C (wr_i32 _) dL_fewest_7 ?_
  refine A_last (pc := 8) C (a := 95) (q := 0) rfl (tt_95 hT) (by decide) rfl (by decide) (wr_i32 _) dL_fewest_8 ?_
  refine M_goto (pc := 9) C (tgt := 15) dL_fewest_9 (by decide) ?_
  refine M_iconst (pc := 15) C dL_fewest_15 ?_
  refine M.widen (k2 := 1) (n2 := 6) (Nat.zero_le _) (Nat.zero_le _) ?_
  exact M_toE (M_iretP (Post := fun r1 v1 => r1 = some (vI 0) ∧ ∃ z v2, P (some (vI z)) v2 ∧ v1 = sa v2 95 (rs (v2 95) 0 (wr z))) (pc := 16) C rfl dL_fewest_16 ⟨rfl, z, v_9, p_9, up_sa _ _ _ _⟩) (fun r v1 h => ⟨h.1, rfl, rfl, h.2⟩)
theorem x_fewest_1 {N : Nat} {T : Ty} {v : Ct} {D : Nat} {x : Int} {PX : Ct → Prop} (hT : TT T) (hR : Thr mX7_fewest D 1 6 [vR 0, vI x] N T v "java/lang/IllegalArgumentException" PX) : RunsE mL_fewest hL_fewest (D + 1) 1 6 [vR 0, vI x, vR 95] N T v (fun r1 N1 T1 v1 => r1 = some (vI 1) ∧ N ≤ N1 ∧ T1 = T ∧ PX v1) := by
  refine RunsE.of (by decide) (Nat.le_of_ble_eq_true rfl) fun κ C hh1 => ?_
  refine M_aload_n (pc := 0) C dL_fewest_0 rfl (by decide) ?_
  refine M_iconst (pc := 1) C dL_fewest_1 ?_
  refine M_aload_n (pc := 2) C dL_fewest_2 rfl (by decide) ?_
  refine M_iload_n (pc := 3) C dL_fewest_3 rfl ?_
  refine M_cat (pc := 4) C hh1 (pre := []) (suf := []) (x := ⟨0, 9, 12, 13⟩) rfl (fun z hz => nomatch hz) (by decide) (by decide) cl_13 ow_13 (a := 0) (c := 7) hR yw_X7_fewest ml_L_72 rfl (congrArg Prod.fst (tt_0 hT)) hc_7 rfl dL_fewest_4 rfl (Nat.le_of_ble_eq_true rfl) (Nat.le_refl _) ⟨by decide, by decide⟩ (Or.inl ⟨3, dL_fewest_12, by decide, rfl⟩) (fun N2 v1 hN2 hP => ?_)
  refine M_iconst (pc := 13) C dL_fewest_13 ?_
  exact M_toE (M_iretP (Post := fun r1 v1 => r1 = some (vI 1) ∧ PX v1) (pc := 14) C rfl dL_fewest_14 ⟨rfl, hP⟩) (fun r v1 h => ⟨h.1, hN2, rfl, h.2⟩)
