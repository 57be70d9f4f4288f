theorem c_X8_sort {N : Nat} {T : Ty} {F O A R : Nat → Int} {v : Ct} (hT : TT T) (hI : RI R) : Runs mX8_sort 3 0 0 [vR 84] N T (sa (sa (sa (sa v 94 F) 93 O) 88 A) 85 R) (some (vI (((srL R 150).length : Nat) : Int))) N T (sa (sa (sa (sa v 94 F) 93 (wrO O (srL R 150))) 88 A) 85 R) := by
  refine Runs.of (by decide) (Nat.le_of_ble_eq_true rfl) fun κ C => ?_
  refine M_iconst (pc := 0) C dX8_sort_0 ?_
  refine M_istore_n (pc := 1) C dX8_sort_1 (by decide) ?_
  refine M_bipush (pc := 2) C (by decide) dX8_sort_2 ?_
  refine M_istore_n (pc := 4) C dX8_sort_4 (by decide) ?_
  refine M.to (v2 := sa (sa (sa (sa v 94 F) 93 (wrO O (srL R (10 * 0)))) 88 A) 85 R) ?_ rfl rfl (by rw [show srL R (10 * 0) = [] from rfl, wrO_0])
  refine loop_le (P := fun a => M κ N T 5 [some (vR 84), some (vI (((srL R (10 * a)).length : Nat) : Int)), some (vI (15 - (a : Int))), none] [] (sa (sa (sa (sa v 94 F) 93 (wrO O (srL R (10 * a)))) 88 A) 85 R) 0 0 (QR κ (some (vI (((srL R 150).length : Nat) : Int))) N T (sa (sa (sa (sa v 94 F) 93 (wrO O (srL R 150))) 88 A) 85 R) 0 0)) 15 (fun a ha iha => ?_)
  refine M_iload_n (pc := 5) C dX8_sort_5 rfl ?_
  refine M_if_le (pc := 6) C (tgt := 56) (by omega) dX8_sort_6 (by decide) (fun h_6 => ?_) (fun h_6 => ?_)
  · refine M_iload_n (pc := 56) C dX8_sort_56 rfl ?_
    exact M_iret (pc := 57) C rfl dX8_sort_57 (by rw [show a = 15 by omega]) (by rw [show a = 15 by omega])
  · refine M_iconst (pc := 9) C dX8_sort_9 ?_
    refine M_istore_n (pc := 10) C dX8_sort_10 (by decide) ?_
    refine loop_le (P := fun i => M κ N T 11 [some (vR 84), some (vI (((srL R (10 * a + i)).length : Nat) : Int)), some (vI (15 - (a : Int))), some (vI ((i : Nat) : Int))] [] (sa (sa (sa (sa v 94 F) 93 (wrO O (srL R (10 * a + i)))) 88 A) 85 R) 0 0 (QR κ (some (vI (((srL R 150).length : Nat) : Int))) N T (sa (sa (sa (sa v 94 F) 93 (wrO O (srL R 150))) 88 A) 85 R) 0 0)) 10 (fun i hi ih => ?_)
    refine M_iload_n (pc := 11) C dX8_sort_11 rfl ?_
    refine M_bipush (pc := 12) C (by decide) dX8_sort_12 ?_
    refine M_icmp_ge (pc := 14) C (tgt := 50) (by omega) (by omega) dX8_sort_14 (by decide) (fun h_14 => ?_) (fun h_14 => ?_)
    · refine M_iinc (pc := 50) C dX8_sort_50 rfl (by decide) ?_
      refine M_goto (pc := 53) C (tgt := 5) dX8_sort_53 (by decide) ?_
      refine M.drop [true, true, true, false] rfl ?_
      have hi10 : i = 10 := by omega
      subst hi10
      exact M.to (iha (by omega)) (by rw [show (15 - (a : Int) + -1) = 15 - ((a + 1 : Nat) : Int) by omega, show 10 * (a + 1) = 10 * a + 10 by omega]; rfl) rfl (by rw [show 10 * (a + 1) = 10 * a + 10 by omega])
    · refine M_aload_n (pc := 17) C dX8_sort_17 rfl (by decide) ?_
      refine M_iload_n (pc := 18) C dX8_sort_18 rfl ?_
      refine A_cV (pc := 19) C (x := vI (Bi (isPk R i))) (a := 84) (c := 8) (c_X8_isPacked hT hI (f := i) (by omega)) yw_X8_isPacked lk_X8_149 rfl (congrArg Prod.fst (tt_84 hT)) hc_8 rfl dX8_sort_19 rfl (Nat.le_of_ble_eq_true rfl) (by decide) ⟨Nat.le_refl _, Nat.le_refl _⟩ ?_
      refine M_if_eq (pc := 22) C (tgt := 44) (Bi_i32 _) dX8_sort_22 (by decide) (fun h_22 => ?_) (fun h_22 => ?_)
      · have b_22 := Bi_eq0 h_22
        have hsr : srC R a i = false := srC_no (Or.inl b_22)
        refine M_iinc (pc := 44) C dX8_sort_44 rfl (by decide) ?_
        refine M_goto (pc := 47) C (tgt := 11) dX8_sort_47 (by decide) ?_
        exact M.to (ih (by omega)) (by first | (rw [show 10 * a + (i + 1) = 10 * a + i + 1 by omega, srL_t (by omega) hsr, List.length_append]; rfl) | (rw [show 10 * a + (i + 1) = 10 * a + i + 1 by omega, srL_f (by omega) hsr]; rfl)) rfl (by first | (rw [show 10 * a + (i + 1) = 10 * a + i + 1 by omega, srL_t (by omega) hsr, wrO_s]) | (rw [show 10 * a + (i + 1) = 10 * a + i + 1 by omega, srL_f (by omega) hsr]))
      · have b_22 := Bi_ne0 h_22
        refine M_aload_n (pc := 25) C dX8_sort_25 rfl (by decide) ?_
        refine M_iload_n (pc := 26) C dX8_sort_26 rfl ?_
        refine A_cV (pc := 27) C (x := vI (ro R i 1 % 16)) (a := 84) (c := 8) (c_X8_tailOf hT hI (f := i) (by omega)) yw_X8_tailOf lk_X8_57 rfl (congrArg Prod.fst (tt_84 hT)) hc_8 rfl dX8_sort_27 rfl (Nat.le_of_ble_eq_true rfl) (by decide) ⟨Nat.le_refl _, Nat.le_refl _⟩ ?_
        refine M_iload_n (pc := 30) C dX8_sort_30 rfl ?_
        refine M_icmp_ne (pc := 31) C (tgt := 44) (by omega) (by omega) dX8_sort_31 (by decide) (fun h_31 => ?_) (fun h_31 => ?_)
        · have hsr : srC R a i = false := srC_no (Or.inr h_31)
          refine M_iinc (pc := 44) C dX8_sort_44 rfl (by decide) ?_
          refine M_goto (pc := 47) C (tgt := 11) dX8_sort_47 (by decide) ?_
          exact M.to (ih (by omega)) (by first | (rw [show 10 * a + (i + 1) = 10 * a + i + 1 by omega, srL_t (by omega) hsr, List.length_append]; rfl) | (rw [show 10 * a + (i + 1) = 10 * a + i + 1 by omega, srL_f (by omega) hsr]; rfl)) rfl (by first | (rw [show 10 * a + (i + 1) = 10 * a + i + 1 by omega, srL_t (by omega) hsr, wrO_s]) | (rw [show 10 * a + (i + 1) = 10 * a + i + 1 by omega, srL_f (by omega) hsr]))
        · have hsr : srC R a i = true := srC_yes b_22 h_31
          have hln := srL_len R (10 * a + i + 1)
          rw [srL_t (by omega) hsr, List.length_append] at hln
          simp only [List.length_cons, List.length_nil] at hln
          refine M_aload_n (pc := 34) C dX8_sort_34 rfl (by decide) ?_
          refine A_getR (pc := 35) C fl_X8_35 rfl (a := 84) (j := 93) rfl (tt_84 hT) rfl dX8_sort_35 ?_
          refine M_iload_n (pc := 38) C dX8_sort_38 rfl ?_
          refine M_iload_n (pc := 39) C dX8_sort_39 rfl ?_
          refine A_iast (pc := 40) C (a := 93) (q := ((srL R (10 * a + i)).length)) rfl (tt_93 hT) (by decide) rfl (by omega) (by omega) dX8_sort_40 ?_
          refine M.to (pc := 41) (v2 := sa (sa (sa (sa v 94 F) 93 (rs (wrO O (srL R (10 * a + i))) ((srL R (10 * a + i)).length) ((i : Nat) : Int))) 88 A) 85 R) ?_ rfl rfl (by rw [sa_up1 (by decide), sa_up1 (by decide), sa_up0])
          refine M_iinc (pc := 41) C dX8_sort_41 rfl (by decide) ?_
          refine M_iinc (pc := 44) C dX8_sort_44 rfl (by decide) ?_
          refine M_goto (pc := 47) C (tgt := 11) dX8_sort_47 (by decide) ?_
          exact M.to (ih (by omega)) (by first | (rw [show 10 * a + (i + 1) = 10 * a + i + 1 by omega, srL_t (by omega) hsr, List.length_append]; rfl) | (rw [show 10 * a + (i + 1) = 10 * a + i + 1 by omega, srL_f (by omega) hsr]; rfl)) rfl (by first | (rw [show 10 * a + (i + 1) = 10 * a + i + 1 by omega, srL_t (by omega) hsr, wrO_s]) | (rw [show 10 * a + (i + 1) = 10 * a + i + 1 by omega, srL_f (by omega) hsr]))
theorem c_X8_firstFor {N : Nat} {T : Ty} {c : Int} {v : Ct} (hT : TT T) (hc : 0 ≤ c ∧ c ≤ 16) (hF : ∀ b, b < 24 → -1 ≤ v 94 b ∧ v 94 b ≤ 16) : Runs mX8_firstFor 0 0 0 [vR 84, vI c] N T v (some (vI (fiF (v 94) c))) N T v := by
  refine Runs.of (by decide) (Nat.le_of_ble_eq_true rfl) fun κ C => ?_
  refine M_iconst (pc := 0) C dX8_firstFor_0 ?_
  refine M_istore_n (pc := 1) C dX8_firstFor_1 (by decide) ?_
  refine loop_le (P := fun i => (∀ j, j < i → (fiP (v 94) c) j = false) → M κ N T 2 [some (vR 84), some (vI c), some (vI ((i : Nat) : Int))] [] v 0 0 (QR κ (some (vI (fiF (v 94) c))) N T v 0 0)) 24 (fun i hi ih => ?_) (fun j hj => absurd hj (Nat.not_lt_zero j))
  intro hin
  refine M_iload_n (pc := 2) C dX8_firstFor_2 rfl ?_
  refine M_bipush (pc := 3) C (by decide) dX8_firstFor_3 ?_
  refine M_icmp_ge (pc := 5) C (tgt := 38) (by omega) (by omega) dX8_firstFor_5 (by decide) (fun h_5 => ?_) (fun h_5 => ?_)
  · refine M_iconst (pc := 38) C dX8_firstFor_38 ?_
    exact M_iret (pc := 39) C rfl dX8_firstFor_39 (by first | (rw [show fiF (v 94) c = i from firstN_at (p := fiP (v 94) c) hin (by unfold fiP; rw [decide_eq_true (p := 0 ≤ v 94 i) (by omega), decide_eq_true (p := v 94 i + c ≤ 16) (by omega)]; rfl) (by omega)]) | (rw [show fiF (v 94) c = -1 from firstN_none (p := fiP (v 94) c) (fun j hj => hin j (by omega))])) rfl
  · refine M_aload_n (pc := 8) C dX8_firstFor_8 rfl (by decide) ?_
    refine A_getR (pc := 9) C fl_X8_38 rfl (a := 84) (j := 94) rfl (tt_84 hT) rfl dX8_firstFor_9 ?_
    refine M_iload_n (pc := 12) C dX8_firstFor_12 rfl ?_
    refine A_iald (pc := 13) C (a := 94) (q := i) rfl (tt_94 hT) (by decide) rfl (by omega) dX8_firstFor_13 (fun (r_13 : i32 (v 94 i)) => ?_)
    have hfi := hF i (by omega)
    refine M_if_lt (pc := 14) C (tgt := 32) (by omega) dX8_firstFor_14 (by decide) (fun h_14 => ?_) (fun h_14 => ?_)
    · refine M_iinc (pc := 32) C dX8_firstFor_32 rfl (by decide) ?_
      refine M_goto (pc := 35) C (tgt := 2) dX8_firstFor_35 (by decide) ?_
      exact M.to (ih (by omega) (fun j hj => by by_cases e : j = i; (subst e; unfold fiP; first | (rw [decide_eq_false (p := 0 ≤ v 94 j) (by omega), Bool.false_and]) | (rw [decide_eq_false (p := v 94 j + c ≤ 16) (by omega), Bool.and_false])); exact hin j (by omega))) rfl rfl rfl
    · refine M_aload_n (pc := 17) C dX8_firstFor_17 rfl (by decide) ?_
      refine A_getR (pc := 18) C fl_X8_38 rfl (a := 84) (j := 94) rfl (tt_84 hT) rfl dX8_firstFor_18 ?_
      refine M_iload_n (pc := 21) C dX8_firstFor_21 rfl ?_
      refine A_iald (pc := 22) C (a := 94) (q := i) rfl (tt_94 hT) (by decide) rfl (by omega) dX8_firstFor_22 (fun (r_22 : i32 (v 94 i)) => ?_)
      refine M_iload_n (pc := 23) C dX8_firstFor_23 rfl ?_
      refine M_iadd (pc := 24) C dX8_firstFor_24 ?_
      refine M_bipush (pc := 25) C (by decide) dX8_firstFor_25 ?_
      refine M_icmp_gt (pc := 27) C (tgt := 32) (by omega) (by omega) dX8_firstFor_27 (by decide) (fun h_27 => ?_) (fun h_27 => ?_)
      · refine M_iinc (pc := 32) C dX8_firstFor_32 rfl (by decide) ?_
        refine M_goto (pc := 35) C (tgt := 2) dX8_firstFor_35 (by decide) ?_
        exact M.to (ih (by omega) (fun j hj => by by_cases e : j = i; (subst e; unfold fiP; first | (rw [decide_eq_false (p := 0 ≤ v 94 j) (by omega), Bool.false_and]) | (rw [decide_eq_false (p := v 94 j + c ≤ 16) (by omega), Bool.and_false])); exact hin j (by omega))) rfl rfl rfl
      · refine M_iload_n (pc := 30) C dX8_firstFor_30 rfl ?_
        exact M_iret (pc := 31) C rfl dX8_firstFor_31 (by first | (rw [show fiF (v 94) c = i from firstN_at (p := fiP (v 94) c) hin (by unfold fiP; rw [decide_eq_true (p := 0 ≤ v 94 i) (by omega), decide_eq_true (p := v 94 i + c ≤ 16) (by omega)]; rfl) (by omega)]) | (rw [show fiF (v 94) c = -1 from firstN_none (p := fiP (v 94) c) (fun j hj => hin j (by omega))])) rfl
theorem c_X8_packs {N : Nat} {T : Ty} {F O A R : Nat → Int} {v : Ct} (hT : TT T) (hI : RI R) : RunsP mX8_packs 5 0 0 [vR 84] N T (sa (sa (sa (sa v 94 F) 93 O) 88 A) 85 R) N T (fun r1 v1 => ∃ F2, r1 = some (vI (pkV R)) ∧ v1 = sa (sa (sa (sa v 94 F2) 93 (wrO O (srL R 150))) 88 (cpA A R 0 0 207)) 85 (pkRR R)) := by
  refine RunsP.of (by decide) (Nat.le_of_ble_eq_true rfl) fun κ C => ?_
  refine M_aload_n (pc := 0) C dX8_packs_0 rfl (by decide) ?_
  refine A_cVv (pc := 1) C (a := 84) (c := 8) (c_X8_layAside hT (v := sa (sa v 94 F) 93 O) (A := A) (R := R)) yw_X8_layAside lk_X8_112 rfl (congrArg Prod.fst (tt_84 hT)) hc_8 rfl dX8_packs_1 rfl (Nat.le_of_ble_eq_true rfl) (by decide) ⟨Nat.le_refl _, Nat.le_refl _⟩ ?_
  refine M_aload_n (pc := 4) C dX8_packs_4 rfl (by decide) ?_
  refine M_iconst (pc := 5) C dX8_packs_5 ?_
  refine A_cV (pc := 6) C (x := vI (cntK R 2)) (a := 84) (c := 8) (c_X8_blocksThat hT (x := 2) (by omega)) yw_X8_blocksThat lk_X8_146 rfl (congrArg Prod.fst (tt_84 hT)) hc_8 rfl dX8_packs_6 rfl (Nat.le_of_ble_eq_true rfl) (by decide) ⟨Nat.le_refl _, Nat.le_refl _⟩ ?_
  refine M_istore_n (pc := 9) C dX8_packs_9 (by decide) ?_
  refine M_aload_n (pc := 10) C dX8_packs_10 rfl (by decide) ?_
  refine A_cV (pc := 11) C (x := vI (((srL R 150).length : Nat) : Int)) (a := 84) (c := 8) (c_X8_sort hT (v := v) (F := F) (O := O) (A := cpA A R 0 0 207) (R := R) hI) yw_X8_sort lk_X8_152 rfl (congrArg Prod.fst (tt_84 hT)) hc_8 rfl dX8_packs_11 rfl (Nat.le_of_ble_eq_true rfl) (by decide) ⟨Nat.le_refl _, Nat.le_refl _⟩ ?_
  have hsl_11 := srL_len R 150
  refine M_istore_n (pc := 14) C dX8_packs_14 (by decide) ?_
  refine M_iconst (pc := 15) C dX8_packs_15 ?_
  refine M_istore_n (pc := 16) C dX8_packs_16 (by decide) ?_
  refine M.to (v2 := sa (sa (sa (sa v 94 (pl0A R F 0)) 93 (wrO O (srL R 150))) 88 (cpA A R 0 0 207)) 85 R) ?_ rfl rfl (by rw [pl0A_0])
  refine loop_le (P := fun i => M κ N T 17 [some (vR 84), some (vI (cntK R 2)), some (vI (((srL R 150).length : Nat) : Int)), some (vI ((i : Nat) : Int)), none, none] [] (sa (sa (sa (sa v 94 (pl0A R F i)) 93 (wrO O (srL R 150))) 88 (cpA A R 0 0 207)) 85 R) 0 0 (QP κ N T (fun r1 v1 => ∃ F2, r1 = some (vI (pkV R)) ∧ v1 = sa (sa (sa (sa v 94 F2) 93 (wrO O (srL R 150))) 88 (cpA A R 0 0 207)) 85 (pkRR R)) 0 0)) 24 (fun i hi ih => ?_)
  refine M_iload_n (pc := 17) C dX8_packs_17 rfl ?_
  refine M_bipush (pc := 18) C (by decide) dX8_packs_18 ?_
  refine M_icmp_ge (pc := 20) C (tgt := 60) (by omega) (by omega) dX8_packs_20 (by decide) (fun h_20 => ?_) (fun h_20 => ?_)
  · refine M_iconst (pc := 60) C dX8_packs_60 ?_
    refine M_istore_n (pc := 61) C dX8_packs_61 (by decide) ?_
    have hi24 : i = 24 := by omega
    subst hi24
    refine loop_ms (S := Nat × (Nat → Int) × (Nat → Int)) (P := fun S => (S.1 ≤ (srL R 150).length ∧ RI S.2.1 ∧ (∀ b, b < 24 → -1 ≤ S.2.2 b ∧ S.2.2 b ≤ 16) ∧ pkN (srL R 150) R (fun b => pl0 R b) = pkN ((srL R 150).drop S.1) S.2.1 S.2.2 ∧ ∀ j, 207 ≤ j → S.2.1 j = R j) → M κ N T 62 [some (vR 84), some (vI (cntK R 2)), some (vI (((srL R 150).length : Nat) : Int)), some (vI ((S.1 : Nat) : Int)), none, none] [] (sa (sa (sa (sa v 94 S.2.2) 93 (wrO O (srL R 150))) 88 (cpA A R 0 0 207)) 85 S.2.1) 0 0 (QP κ N T (fun r1 v1 => ∃ F2, r1 = some (vI (pkV R)) ∧ v1 = sa (sa (sa (sa v 94 F2) 93 (wrO O (srL R 150))) 88 (cpA A R 0 0 207)) 85 (pkRR R)) 0 0)) (fun S => (srL R 150).length - S.1) (fun S ih => ?_) (0, R, pl0A R F 24) ⟨Nat.zero_le _, hI, fun b hb => by show -1 ≤ pl0A R F 24 b ∧ pl0A R F 24 b ≤ 16; unfold pl0A; rw [if_pos hb]; unfold pl0; split <;> decide, pkN_congr _ (fun b hb => (show pl0A R F 24 b = pl0 R b from if_pos hb).symm), fun _ _ => rfl⟩
    intro hin
    obtain ⟨hq1, hI1, hF, hq2, hq3⟩ := hin
    refine M_iload_n (pc := 62) C dX8_packs_62 rfl ?_
    refine M_iload_n (pc := 63) C dX8_packs_63 rfl ?_
    refine M_icmp_ge (pc := 64) C (tgt := 160) (by omega) (by omega) dX8_packs_64 (by decide) (fun h_64 => ?_) (fun h_64 => ?_)
    · obtain ⟨R2, hR2⟩ : ∃ R2, R2 = S.2.1 := ⟨_, rfl⟩
      have hI2 : RI R2 := by rw [hR2]; exact hI1
      have hpo : pkO R = some (pkZ R2) := by unfold pkO; rw [hq2, show S.1 = (srL R 150).length by omega, List.drop_length, hR2]; rfl
      refine M.to (v2 := sa (sa (sa (sa v 94 S.2.2) 93 (wrO O (srL R 150))) 88 (cpA A R 0 0 207)) 85 (fzN R2 0)) ?_ rfl rfl (by rw [hR2]; rfl)
      refine M_iconst (pc := 160) C dX8_packs_160 ?_
      refine M_istore_n (pc := 161) C dX8_packs_161 (by decide) ?_
      refine loop_le (P := fun i => M κ N T 162 [some (vR 84), some (vI (cntK R 2)), some (vI (((srL R 150).length : Nat) : Int)), some (vI ((i : Nat) : Int)), none, none] [] (sa (sa (sa (sa v 94 S.2.2) 93 (wrO O (srL R 150))) 88 (cpA A R 0 0 207)) 85 (fzN R2 i)) 0 0 (QP κ N T (fun r1 v1 => ∃ F2, r1 = some (vI (pkV R)) ∧ v1 = sa (sa (sa (sa v 94 F2) 93 (wrO O (srL R 150))) 88 (cpA A R 0 0 207)) 85 (pkRR R)) 0 0)) 24 (fun i hi ih => ?_)
      refine M_iload_n (pc := 162) C dX8_packs_162 rfl ?_
      refine M_bipush (pc := 163) C (by decide) dX8_packs_163 ?_
      refine M_icmp_ge (pc := 165) C (tgt := 181) (by omega) (by omega) dX8_packs_165 (by decide) (fun h_165 => ?_) (fun h_165 => ?_)
      · have hi24 : i = 24 := by omega
        subst hi24
        refine M_aload_n (pc := 181) C dX8_packs_181 rfl (by decide) ?_
        refine A_getR (pc := 182) C fl_X8_7 rfl (a := 84) (j := 85) rfl (tt_84 hT) rfl dX8_packs_182 ?_
        refine M_iconst (pc := 185) C dX8_packs_185 ?_
        refine M_dup2 (pc := 186) C rfl rfl dX8_packs_186 ?_
        refine A_iald (pc := 187) C (a := 85) (q := 1) rfl (tt_85 hT) (by decide) rfl (by omega) dX8_packs_187 (fun (r_187 : i32 ((fzN R2 24) 1)) => ?_)
        refine M.to (pc := 188) (st2 := [vI ((fzN R2 24) 1), vI 1, vR 85]) ?_ rfl rfl rfl
        refine M_iconst (pc := 188) C dX8_packs_188 ?_
        refine M_iadd (pc := 189) C dX8_packs_189 ?_
        refine M_wr (pc := 190) ?_
        refine A_iast (pc := 190) C (a := 85) (q := 1) rfl (tt_85 hT) (by decide) rfl (by omega) (wr_i32 _) dX8_packs_190 ?_
        refine M.to (pc := 191) (v2 := sa (sa (sa (sa v 94 S.2.2) 93 (wrO O (srL R 150))) 88 (cpA A R 0 0 207)) 85 (rs (fzN R2 24) 1 (wr (((fzN R2 24) 1) + 1)))) ?_ rfl rfl (by rw [sa_up0])
        refine M_iload_n (pc := 191) C dX8_packs_191 rfl ?_
        refine M_aload_n (pc := 192) C dX8_packs_192 rfl (by decide) ?_
        refine M_iconst (pc := 193) C dX8_packs_193 ?_
        refine A_cV (pc := 194) C (x := vI (cntK (rs (fzN R2 24) 1 (wr (((fzN R2 24) 1) + 1))) 2)) (a := 84) (c := 8) (c_X8_blocksThat hT (x := 2) (by omega)) yw_X8_blocksThat lk_X8_146 rfl (congrArg Prod.fst (tt_84 hT)) hc_8 rfl dX8_packs_194 rfl (Nat.le_of_ble_eq_true rfl) (by decide) ⟨Nat.le_refl _, Nat.le_refl _⟩ ?_
        refine M_isub (pc := 197) C dX8_packs_197 ?_
        exact M_iretP (pc := 198) C rfl dX8_packs_198 ⟨S.2.2, by unfold pkV; rw [hpo]; rfl, by unfold pkRR; rw [hpo]; rfl⟩
      · refine M_aload_n (pc := 168) C dX8_packs_168 rfl (by decide) ?_
        refine M_iload_n (pc := 169) C dX8_packs_169 rfl ?_
        refine A_cV (pc := 170) C (x := vI (Bi (frC (fzN R2 i) i))) (a := 84) (c := 8) (c_X8_frees_i hT (v := sa (sa (sa v 94 S.2.2) 93 (wrO O (srL R 150))) 88 (cpA A R 0 0 207)) (R := fzN R2 i) (x := ((i : Nat) : Int)) (b := i) (RI_fzN hI2 (by omega)) (by omega) (by omega)) yw_X8_frees lk_X8_100 rfl (congrArg Prod.fst (tt_84 hT)) hc_8 rfl dX8_packs_170 rfl (Nat.le_of_ble_eq_true rfl) (by decide) ⟨Nat.le_refl _, Nat.le_refl _⟩ ?_
        refine M_istore (pc := 173) C dX8_packs_173 (by decide) ?_
        refine M_iinc (pc := 175) C dX8_packs_175 rfl (by decide) ?_
        refine M_goto (pc := 178) C (tgt := 162) dX8_packs_178 (by decide) ?_
        refine M.drop [true, true, true, true, false, true] rfl ?_
        exact M.to (ih (by omega)) rfl rfl rfl
    · have hlt : S.1 < (srL R 150).length := by omega
      obtain ⟨f, hf0⟩ : ∃ f, f = (srL R 150)[S.1] := ⟨_, rfl⟩
      have hdr : (srL R 150).drop S.1 = f :: (srL R 150).drop (S.1 + 1) := by rw [hf0]; exact List.drop_eq_getElem_cons hlt
      have hf : f < 10 := (srL_in (by rw [hf0]; exact List.getElem_mem hlt)).1
      have hO : (wrO O (srL R 150)) S.1 = (f : Int) := by unfold wrO; rw [if_pos hlt, hf0]; simp [List.getD_eq_getElem?_getD, List.getElem?_eq_getElem hlt]
      have hI1f := hI1 f hf
      refine M_aload_n (pc := 67) C dX8_packs_67 rfl (by decide) ?_
      refine A_getR (pc := 68) C fl_X8_35 rfl (a := 84) (j := 93) rfl (tt_84 hT) rfl dX8_packs_68 ?_
      refine M_iload_n (pc := 71) C dX8_packs_71 rfl ?_
      refine A_iald (pc := 72) C (a := 93) (q := S.1) rfl (tt_93 hT) (by decide) rfl (by omega) dX8_packs_72 (fun (r_72 : i32 ((wrO O (srL R 150)) S.1)) => ?_)
      refine M.to (pc := 73) (st2 := [vI ((wrO O (srL R 150)) S.1)]) ?_ rfl rfl rfl
      refine M.to (st2 := [vI ((f : Nat) : Int)]) ?_ rfl (by rw [hO]) rfl
      refine M_istore (pc := 73) C dX8_packs_73 (by decide) ?_
      refine M_aload_n (pc := 75) C dX8_packs_75 rfl (by decide) ?_
      refine M_aload_n (pc := 76) C dX8_packs_76 rfl (by decide) ?_
      refine M_iload (pc := 77) C dX8_packs_77 rfl ?_
      refine A_cV (pc := 79) C (x := vI (ro S.2.1 f 1 % 16)) (a := 84) (c := 8) (c_X8_tailOf hT hI1 (f := f) (by omega)) yw_X8_tailOf lk_X8_57 rfl (congrArg Prod.fst (tt_84 hT)) hc_8 rfl dX8_packs_79 rfl (Nat.le_of_ble_eq_true rfl) (by decide) ⟨Nat.le_refl _, Nat.le_refl _⟩ ?_
      refine A_cV (pc := 82) C (x := vI (fiF S.2.2 (ro S.2.1 f 1 % 16))) (a := 84) (c := 8) (c_X8_firstFor hT (c := ro S.2.1 f 1 % 16) (by omega) hF) yw_X8_firstFor lk_X8_158 rfl (congrArg Prod.fst (tt_84 hT)) hc_8 rfl dX8_packs_82 rfl (Nat.le_of_ble_eq_true rfl) (by decide) ⟨Nat.le_refl _, Nat.le_refl _⟩ ?_
      have hfb_82 := fiF_bd S.2.2 (ro S.2.1 f 1 % 16)
      refine M_istore (pc := 85) C dX8_packs_85 (by decide) ?_
      refine M_iload (pc := 87) C dX8_packs_87 rfl ?_
      refine M_iconst (pc := 89) C dX8_packs_89 ?_
      refine M_icmp_ne (pc := 90) C (tgt := 99) (by omega) (by omega) dX8_packs_90 (by decide) (fun h_90 => ?_) (fun h_90 => ?_)
      · have hb0 : fiF S.2.2 (ro S.2.1 f 1 % 16) ≠ -1 := h_90
        have hat := fiF_at hb0
        refine M_aload_n (pc := 99) C dX8_packs_99 rfl (by decide) ?_
        refine M_iload (pc := 100) C dX8_packs_100 rfl ?_
        refine M_iconst (pc := 102) C dX8_packs_102 ?_
        refine M_iload (pc := 103) C dX8_packs_103 rfl ?_
        refine A_cVv (pc := 105) C (a := 84) (c := 8) (c_X8_lay (f := f) (w := 3) hT (by omega) (by omega)) yw_X8_lay lk_X8_96 rfl (congrArg Prod.fst (tt_84 hT)) hc_8 rfl dX8_packs_105 rfl (Nat.le_of_ble_eq_true rfl) (by decide) ⟨Nat.le_refl _, Nat.le_refl _⟩ ?_
        refine M.to (v2 := sa (sa (sa (sa v 94 S.2.2) 93 (wrO O (srL R 150))) 88 (cpA A R 0 0 207)) 85 (rs S.2.1 (27 + 18 * f + 3) (fiF S.2.2 (ro S.2.1 f 1 % 16)))) ?_ rfl rfl (by rw [sa_up0])
        refine M_aload_n (pc := 108) C dX8_packs_108 rfl (by decide) ?_
        refine M_iload (pc := 109) C dX8_packs_109 rfl ?_
        refine M_iconst (pc := 111) C dX8_packs_111 ?_
        refine M_aload_n (pc := 112) C dX8_packs_112 rfl (by decide) ?_
        refine A_getR (pc := 113) C fl_X8_38 rfl (a := 84) (j := 94) rfl (tt_84 hT) rfl dX8_packs_113 ?_
        refine M_iload (pc := 116) C dX8_packs_116 rfl ?_
        refine A_iald (pc := 118) C (a := 94) (q := ((fiF S.2.2 (ro S.2.1 f 1 % 16)).toNat)) rfl (tt_94 hT) (by decide) (by omega) (by omega) dX8_packs_118 (fun (r_118 : i32 (S.2.2 ((fiF S.2.2 (ro S.2.1 f 1 % 16)).toNat))) => ?_)
        refine M.to (pc := 119) (st2 := [vI (S.2.2 ((fiF S.2.2 (ro S.2.1 f 1 % 16)).toNat)), vI 4, vI ((f : Nat) : Int), vR 84]) ?_ rfl rfl rfl
        refine A_cVv (pc := 119) C (a := 84) (c := 8) (c_X8_lay (f := f) (w := 4) hT (by omega) (by omega)) yw_X8_lay lk_X8_96 rfl (congrArg Prod.fst (tt_84 hT)) hc_8 rfl dX8_packs_119 rfl (Nat.le_of_ble_eq_true rfl) (by decide) ⟨Nat.le_refl _, Nat.le_refl _⟩ ?_
        refine M.to (v2 := sa (sa (sa (sa v 94 S.2.2) 93 (wrO O (srL R 150))) 88 (cpA A R 0 0 207)) 85 (rs (rs S.2.1 (27 + 18 * f + 3) (fiF S.2.2 (ro S.2.1 f 1 % 16))) (27 + 18 * f + 4) (S.2.2 ((fiF S.2.2 (ro S.2.1 f 1 % 16)).toNat)))) ?_ rfl rfl (by rw [sa_up0])
        refine M_aload_n (pc := 122) C dX8_packs_122 rfl (by decide) ?_
        refine M_iload (pc := 123) C dX8_packs_123 rfl ?_
        refine M_iconst (pc := 125) C dX8_packs_125 ?_
        refine M_aload_n (pc := 126) C dX8_packs_126 rfl (by decide) ?_
        refine M_iload (pc := 127) C dX8_packs_127 rfl ?_
        refine M_iconst (pc := 129) C dX8_packs_129 ?_
        refine A_cV (pc := 130) C (x := vI (ro (rs (rs S.2.1 (27 + 18 * f + 3) (fiF S.2.2 (ro S.2.1 f 1 % 16))) (27 + 18 * f + 4) (S.2.2 ((fiF S.2.2 (ro S.2.1 f 1 % 16)).toNat))) f 5)) (a := 84) (c := 8) (c_X8_of (f := f) (w := 5) hT (by omega)) yw_X8_of lk_X8_49 rfl (congrArg Prod.fst (tt_84 hT)) hc_8 rfl dX8_packs_130 rfl (Nat.le_of_ble_eq_true rfl) (by decide) ⟨Nat.le_refl _, Nat.le_refl _⟩ ?_
        refine M_rd (pc := 133) C 85 (27 + 18 * f + 5) (fun (r_130_0 : i32 (ro (rs (rs S.2.1 (27 + 18 * f + 3) (fiF S.2.2 (ro S.2.1 f 1 % 16))) (27 + 18 * f + 4) (S.2.2 ((fiF S.2.2 (ro S.2.1 f 1 % 16)).toNat))) f 5)) => ?_)
        refine M_iconst (pc := 133) C dX8_packs_133 ?_
        refine M_iadd (pc := 134) C dX8_packs_134 ?_
        refine M_wr (pc := 135) ?_
        refine A_cVv (pc := 135) C (a := 84) (c := 8) (c_X8_lay (f := f) (w := 5) hT (by omega) (wr_i32 _)) yw_X8_lay lk_X8_96 rfl (congrArg Prod.fst (tt_84 hT)) hc_8 rfl dX8_packs_135 rfl (Nat.le_of_ble_eq_true rfl) (by decide) ⟨Nat.le_refl _, Nat.le_refl _⟩ ?_
        refine M.to (v2 := sa (sa (sa (sa v 94 S.2.2) 93 (wrO O (srL R 150))) 88 (cpA A R 0 0 207)) 85 (rs (rs (rs S.2.1 (27 + 18 * f + 3) (fiF S.2.2 (ro S.2.1 f 1 % 16))) (27 + 18 * f + 4) (S.2.2 ((fiF S.2.2 (ro S.2.1 f 1 % 16)).toNat))) (27 + 18 * f + 5) (wr ((ro (rs (rs S.2.1 (27 + 18 * f + 3) (fiF S.2.2 (ro S.2.1 f 1 % 16))) (27 + 18 * f + 4) (S.2.2 ((fiF S.2.2 (ro S.2.1 f 1 % 16)).toNat))) f 5) + 1)))) ?_ rfl rfl (by rw [sa_up0])
        refine M.to (v2 := sa (sa (sa (sa v 94 S.2.2) 93 (wrO O (srL R 150))) 88 (cpA A R 0 0 207)) 85 (pkR S.2.1 S.2.2 f)) ?_ rfl rfl rfl
        have hsz : ro (pkR S.2.1 S.2.2 f) f 1 = ro S.2.1 f 1 := by rw [pkR_ro (by omega), if_neg (by omega), if_neg (by omega), if_neg (by omega)]
        refine M_aload_n (pc := 138) C dX8_packs_138 rfl (by decide) ?_
        refine A_getR (pc := 139) C fl_X8_38 rfl (a := 84) (j := 94) rfl (tt_84 hT) rfl dX8_packs_139 ?_
        refine M_iload (pc := 142) C dX8_packs_142 rfl ?_
        refine M_dup2 (pc := 144) C rfl rfl dX8_packs_144 ?_
        refine A_iald (pc := 145) C (a := 94) (q := ((fiF S.2.2 (ro S.2.1 f 1 % 16)).toNat)) rfl (tt_94 hT) (by decide) (by omega) (by omega) dX8_packs_145 (fun (r_145 : i32 (S.2.2 ((fiF S.2.2 (ro S.2.1 f 1 % 16)).toNat))) => ?_)
        refine M.to (pc := 146) (st2 := [vI (S.2.2 ((fiF S.2.2 (ro S.2.1 f 1 % 16)).toNat)), vI (fiF S.2.2 (ro S.2.1 f 1 % 16)), vR 94]) ?_ rfl rfl rfl
        refine M_aload_n (pc := 146) C dX8_packs_146 rfl (by decide) ?_
        refine M_iload (pc := 147) C dX8_packs_147 rfl ?_
        refine A_cV (pc := 149) C (x := vI (ro (pkR S.2.1 S.2.2 f) f 1 % 16)) (a := 84) (c := 8) (c_X8_tailOf hT (RI_pkR hI1 hf hb0) (f := f) (by omega)) yw_X8_tailOf lk_X8_57 rfl (congrArg Prod.fst (tt_84 hT)) hc_8 rfl dX8_packs_149 rfl (Nat.le_of_ble_eq_true rfl) (by decide) ⟨Nat.le_refl _, Nat.le_refl _⟩ ?_
        refine M.to (st2 := [vI (ro S.2.1 f 1 % 16), vI (S.2.2 (fiF S.2.2 (ro S.2.1 f 1 % 16)).toNat), vI (fiF S.2.2 (ro S.2.1 f 1 % 16)), vR 94]) ?_ rfl (by rw [hsz]) rfl
        refine M_iadd (pc := 152) C dX8_packs_152 ?_
        refine A_iast (pc := 153) C (a := 94) (q := ((fiF S.2.2 (ro S.2.1 f 1 % 16)).toNat)) rfl (tt_94 hT) (by decide) (by omega) (by omega) (by omega) dX8_packs_153 ?_
        refine M.to (pc := 154) (v2 := sa (sa (sa (sa v 94 (rs S.2.2 ((fiF S.2.2 (ro S.2.1 f 1 % 16)).toNat) ((S.2.2 (fiF S.2.2 (ro S.2.1 f 1 % 16)).toNat) + (ro S.2.1 f 1 % 16)))) 93 (wrO O (srL R 150))) 88 (cpA A R 0 0 207)) 85 (pkR S.2.1 S.2.2 f)) ?_ rfl rfl (by rw [sa_up1 (by decide), sa_up1 (by decide), sa_up1 (by decide), sa_up0])
        refine M_iinc (pc := 154) C dX8_packs_154 rfl (by decide) ?_
        refine M_goto (pc := 157) C (tgt := 62) dX8_packs_157 (by decide) ?_
        refine M.drop [true, true, true, true, false, false] rfl ?_
        exact M.to (ih (S.1 + 1, pkR S.2.1 S.2.2 f, pkFl S.2.1 S.2.2 f) (by show (srL R 150).length - (S.1 + 1) < (srL R 150).length - S.1; omega) ⟨by show S.1 + 1 ≤ _; omega, RI_pkR hI1 hf hb0, fun b hb => by show -1 ≤ rs S.2.2 _ _ b ∧ rs S.2.2 _ _ b ≤ 16; unfold rs; split; (omega); (exact hF b hb), by rw [hq2, hdr, pkN_c hb0], fun j hj => (pkR_hi hf hj).trans (hq3 j hj)⟩) rfl rfl rfl
      · have hb0 : fiF S.2.2 (ro S.2.1 f 1 % 16) = -1 := h_90
        have hpo : pkO R = none := by unfold pkO; rw [hq2, hdr, pkN_n hb0]; rfl
        refine M_aload_n (pc := 93) C dX8_packs_93 rfl (by decide) ?_
        refine A_cVv (pc := 94) C (a := 84) (c := 8) (c_X8_putBack hT (v := sa (sa v 94 S.2.2) 93 (wrO O (srL R 150))) (A := cpA A R 0 0 207) (R := S.2.1)) yw_X8_putBack lk_X8_106 rfl (congrArg Prod.fst (tt_84 hT)) hc_8 rfl dX8_packs_94 rfl (Nat.le_of_ble_eq_true rfl) (by decide) ⟨Nat.le_refl _, Nat.le_refl _⟩ ?_
        refine M_iconst (pc := 97) C dX8_packs_97 ?_
        exact M_iretP (pc := 98) C rfl dX8_packs_98 ⟨S.2.2, by unfold pkV; rw [hpo], by unfold pkRR; rw [hpo, cp_back (fun j hj => hq3 j hj)]⟩
  · refine M_aload_n (pc := 23) C dX8_packs_23 rfl (by decide) ?_
    refine A_getR (pc := 24) C fl_X8_38 rfl (a := 84) (j := 94) rfl (tt_84 hT) rfl dX8_packs_24 ?_
    refine M_iload_n (pc := 27) C dX8_packs_27 rfl ?_
    refine M_aload_n (pc := 28) C dX8_packs_28 rfl (by decide) ?_
    refine A_getR (pc := 29) C fl_X8_7 rfl (a := 84) (j := 85) rfl (tt_84 hT) rfl dX8_packs_29 ?_
    refine M_iconst (pc := 32) C dX8_packs_32 ?_
    refine M_iload_n (pc := 33) C dX8_packs_33 rfl ?_
    refine M_iadd (pc := 34) C dX8_packs_34 ?_
    refine A_iald (pc := 35) C (a := 85) (q := (3 + i)) rfl (tt_85 hT) (by decide) (by omega) (by omega) dX8_packs_35 (fun (r_35 : i32 (R (3 + i))) => ?_)
    refine M.to (pc := 36) (st2 := [vI (R (3 + i)), vI ((i : Nat) : Int), vR 94]) ?_ rfl rfl rfl
    refine M_iconst (pc := 36) C dX8_packs_36 ?_
    refine M_icmp_ne (pc := 37) C (tgt := 52) (by omega) (by omega) dX8_packs_37 (by decide) (fun h_37 => ?_) (fun h_37 => ?_)
    · refine M_iconst (pc := 52) C dX8_packs_52 ?_
      refine A_iast (pc := 53) C (a := 94) (q := i) rfl (tt_94 hT) (by decide) rfl (by omega) (by omega) dX8_packs_53 ?_
      refine M.to (pc := 54) (v2 := sa (sa (sa (sa v 94 (rs (pl0A R F i) i (-1))) 93 (wrO O (srL R 150))) 88 (cpA A R 0 0 207)) 85 R) ?_ rfl rfl (by rw [sa_up1 (by decide), sa_up1 (by decide), sa_up1 (by decide), sa_up0])
      refine M_iinc (pc := 54) C dX8_packs_54 rfl (by decide) ?_
      refine M_goto (pc := 57) C (tgt := 17) dX8_packs_57 (by decide) ?_
      exact M.to (ih (by omega)) rfl rfl (by first | (rw [pl0A_s (x := 0) (if_pos ⟨h_37, b_45⟩)]) | (rw [pl0A_s (x := -1) (if_neg (fun q => absurd q.2 (by rw [b_45]; decide)))]) | (rw [pl0A_s (x := -1) (if_neg (fun q => h_37 q.1))]))
    · refine M_aload_n (pc := 40) C dX8_packs_40 rfl (by decide) ?_
      refine M_iload_n (pc := 41) C dX8_packs_41 rfl ?_
      refine A_cV (pc := 42) C (x := vI (Bi (orN (hldB R ((i : Nat) : Int)) 10))) (a := 84) (c := 8) (c_X8_holdsBroken hT hI (b := ((i : Nat) : Int)) (by omega)) yw_X8_holdsBroken lk_X8_155 rfl (congrArg Prod.fst (tt_84 hT)) hc_8 rfl dX8_packs_42 rfl (Nat.le_of_ble_eq_true rfl) (by decide) ⟨Nat.le_refl _, Nat.le_refl _⟩ ?_
      refine M_if_ne (pc := 45) C (tgt := 52) (Bi_i32 _) dX8_packs_45 (by decide) (fun h_45 => ?_) (fun h_45 => ?_)
      · have b_45 := Bi_ne0 h_45
        refine M_iconst (pc := 52) C dX8_packs_52 ?_
        refine A_iast (pc := 53) C (a := 94) (q := i) rfl (tt_94 hT) (by decide) rfl (by omega) (by omega) dX8_packs_53 ?_
        refine M.to (pc := 54) (v2 := sa (sa (sa (sa v 94 (rs (pl0A R F i) i (-1))) 93 (wrO O (srL R 150))) 88 (cpA A R 0 0 207)) 85 R) ?_ rfl rfl (by rw [sa_up1 (by decide), sa_up1 (by decide), sa_up1 (by decide), sa_up0])
        refine M_iinc (pc := 54) C dX8_packs_54 rfl (by decide) ?_
        refine M_goto (pc := 57) C (tgt := 17) dX8_packs_57 (by decide) ?_
        exact M.to (ih (by omega)) rfl rfl (by first | (rw [pl0A_s (x := 0) (if_pos ⟨h_37, b_45⟩)]) | (rw [pl0A_s (x := -1) (if_neg (fun q => absurd q.2 (by rw [b_45]; decide)))]) | (rw [pl0A_s (x := -1) (if_neg (fun q => h_37 q.1))]))
      · have b_45 := Bi_eq0 h_45
        refine M_iconst (pc := 48) C dX8_packs_48 ?_
        refine M_goto (pc := 49) C (tgt := 53) dX8_packs_49 (by decide) ?_
        refine A_iast (pc := 53) C (a := 94) (q := i) rfl (tt_94 hT) (by decide) rfl (by omega) (by omega) dX8_packs_53 ?_
        refine M.to (pc := 54) (v2 := sa (sa (sa (sa v 94 (rs (pl0A R F i) i 0)) 93 (wrO O (srL R 150))) 88 (cpA A R 0 0 207)) 85 R) ?_ rfl rfl (by rw [sa_up1 (by decide), sa_up1 (by decide), sa_up1 (by decide), sa_up0])
        refine M_iinc (pc := 54) C dX8_packs_54 rfl (by decide) ?_
        refine M_goto (pc := 57) C (tgt := 17) dX8_packs_57 (by decide) ?_
        exact M.to (ih (by omega)) rfl rfl (by first | (rw [pl0A_s (x := 0) (if_pos ⟨h_37, b_45⟩)]) | (rw [pl0A_s (x := -1) (if_neg (fun q => absurd q.2 (by rw [b_45]; decide)))]) | (rw [pl0A_s (x := -1) (if_neg (fun q => h_37 q.1))]))
