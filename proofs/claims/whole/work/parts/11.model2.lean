theorem c_X8_gapAt {N : Nat} {T : Ty} {b c : Nat} {v : Ct} (hT : TT T) (hI : RI (v 85)) (hb : b < 24) (hc : c < 16) : Runs mX8_gapAt 4 0 0 [vR 84, vI ((b : Nat) : Int), vI ((c : Nat) : Int)] N T v (some (vI ((gapAt (decide (v 85 (3 + b) = 2)) (tkC (v 85) b) c : Nat) : Int))) N T v := by
  refine Runs.of (by decide) (Nat.le_of_ble_eq_true rfl) fun κ C => ?_
  refine M_aload_n (pc := 0) C dX8_gapAt_0 rfl (by decide) ?_
  refine A_getR (pc := 1) C fl_X8_7 rfl (a := 84) (j := 85) rfl (tt_84 hT) rfl dX8_gapAt_1 ?_
  refine M_iconst (pc := 4) C dX8_gapAt_4 ?_
  refine M_iload_n (pc := 5) C dX8_gapAt_5 rfl ?_
  refine M_iadd (pc := 6) C dX8_gapAt_6 ?_
  refine A_iald (pc := 7) C (a := 85) (q := (3 + b)) rfl (tt_85 hT) (by decide) (by omega) (by omega) dX8_gapAt_7 (fun (r_7 : i32 (v 85 (3 + b))) => ?_)
  refine M_iconst (pc := 8) C dX8_gapAt_8 ?_
  refine M_icmp_ne (pc := 9) C (tgt := 36) (by omega) (by omega) dX8_gapAt_9 (by decide) (fun h_9 => ?_) (fun h_9 => ?_)
  · refine M_iconst (pc := 36) C dX8_gapAt_36 ?_
    exact M_iret (pc := 37) C rfl dX8_gapAt_37 (by rw [gapAt_0 (by first | exact Or.inl (decide_eq_false h_9) | exact Or.inr (Or.inl b_18) | exact Or.inr (Or.inr ⟨by omega, by show isTk (v 85) b ((c - 1 : Nat) : Int) = false; rw [show ((c - 1 : Nat) : Int) = (c : Int) - 1 by omega]; exact b_33⟩))]; rfl) rfl
  · refine M_aload_n (pc := 12) C dX8_gapAt_12 rfl (by decide) ?_
    refine M_iload_n (pc := 13) C dX8_gapAt_13 rfl ?_
    refine M_iload_n (pc := 14) C dX8_gapAt_14 rfl ?_
    refine A_cV (pc := 15) C (x := vI (Bi (isTk (v 85) ((b : Nat) : Int) ((c : Nat) : Int)))) (a := 84) (c := 8) (c_X8_isTaken hT hI (b := ((b : Nat) : Int)) (c := ((c : Nat) : Int)) (by omega) (by omega)) yw_X8_isTaken lk_X8_65 rfl (congrArg Prod.fst (tt_84 hT)) hc_8 rfl dX8_gapAt_15 rfl (Nat.le_of_ble_eq_true rfl) (by decide) ⟨Nat.le_refl _, Nat.le_refl _⟩ ?_
    refine M_if_ne (pc := 18) C (tgt := 36) (Bi_i32 _) dX8_gapAt_18 (by decide) (fun h_18 => ?_) (fun h_18 => ?_)
    · have b_18 := Bi_ne0 h_18
      refine M_iconst (pc := 36) C dX8_gapAt_36 ?_
      exact M_iret (pc := 37) C rfl dX8_gapAt_37 (by rw [gapAt_0 (by first | exact Or.inl (decide_eq_false h_9) | exact Or.inr (Or.inl b_18) | exact Or.inr (Or.inr ⟨by omega, by show isTk (v 85) b ((c - 1 : Nat) : Int) = false; rw [show ((c - 1 : Nat) : Int) = (c : Int) - 1 by omega]; exact b_33⟩))]; rfl) rfl
    · have b_18 := Bi_eq0 h_18
      refine M_iload_n (pc := 21) C dX8_gapAt_21 rfl ?_
      refine M_if_le (pc := 22) C (tgt := 38) (by omega) dX8_gapAt_22 (by decide) (fun h_22 => ?_) (fun h_22 => ?_)
      · have hg : gapAt (decide (v 85 (3 + b) = 2)) (tkC (v 85) b) c = gapLen (tkC (v 85) b) (16 - c) c := gapAt_1 (decide_eq_true h_9) b_18 (by first | exact Or.inl (by omega) | exact Or.inr (by show isTk (v 85) b ((c - 1 : Nat) : Int) = true; rw [show ((c - 1 : Nat) : Int) = (c : Int) - 1 by omega]; exact b_33))
        refine M_iconst (pc := 38) C dX8_gapAt_38 ?_
        refine M_istore_n (pc := 39) C dX8_gapAt_39 (by decide) ?_
        refine loop_le (P := fun n => (gapLen (tkC (v 85) b) (16 - c) c = n + gapLen (tkC (v 85) b) (16 - c - n) (c + n)) → M κ N T 40 [some (vR 84), some (vI ((b : Nat) : Int)), some (vI ((c : Nat) : Int)), some (vI ((n : Nat) : Int))] [] v 0 0 (QR κ (some (vI ((gapAt (decide (v 85 (3 + b) = 2)) (tkC (v 85) b) c : Nat) : Int))) N T v 0 0)) (16 - c) (fun n hi ih => ?_) (by rw [Nat.zero_add]; rfl)
        intro hin
        refine M_iload_n (pc := 40) C dX8_gapAt_40 rfl ?_
        refine M_iload_n (pc := 41) C dX8_gapAt_41 rfl ?_
        refine M_iadd (pc := 42) C dX8_gapAt_42 ?_
        refine M_bipush (pc := 43) C (by decide) dX8_gapAt_43 ?_
        refine M_icmp_ge (pc := 45) C (tgt := 65) (by omega) (by omega) dX8_gapAt_45 (by decide) (fun h_45 => ?_) (fun h_45 => ?_)
        · refine M_iload_n (pc := 65) C dX8_gapAt_65 rfl ?_
          exact M_iret (pc := 66) C rfl dX8_gapAt_66 (by rw [hg, hin]; first | (rw [show 16 - c - n = 0 by omega]; rfl) | (rw [gapLen_0 (tk := (tkC (v 85) b)) (c := c + n) b_56]; rfl)) rfl
        · refine M_aload_n (pc := 48) C dX8_gapAt_48 rfl (by decide) ?_
          refine M_iload_n (pc := 49) C dX8_gapAt_49 rfl ?_
          refine M_iload_n (pc := 50) C dX8_gapAt_50 rfl ?_
          refine M_iload_n (pc := 51) C dX8_gapAt_51 rfl ?_
          refine M_iadd (pc := 52) C dX8_gapAt_52 ?_
          refine A_cV (pc := 53) C (x := vI (Bi (isTk (v 85) ((b : Nat) : Int) (((c : Nat) : Int) + ((n : Nat) : Int))))) (a := 84) (c := 8) (c_X8_isTaken hT hI (b := ((b : Nat) : Int)) (c := ((c : Nat) : Int) + ((n : Nat) : Int)) (by omega) (by omega)) yw_X8_isTaken lk_X8_65 rfl (congrArg Prod.fst (tt_84 hT)) hc_8 rfl dX8_gapAt_53 rfl (Nat.le_of_ble_eq_true rfl) (by decide) ⟨Nat.le_refl _, Nat.le_refl _⟩ ?_
          refine M_if_ne (pc := 56) C (tgt := 65) (Bi_i32 _) dX8_gapAt_56 (by decide) (fun h_56 => ?_) (fun h_56 => ?_)
          · have b_56 := Bi_ne0 h_56
            refine M_iload_n (pc := 65) C dX8_gapAt_65 rfl ?_
            exact M_iret (pc := 66) C rfl dX8_gapAt_66 (by rw [hg, hin]; first | (rw [show 16 - c - n = 0 by omega]; rfl) | (rw [gapLen_0 (tk := (tkC (v 85) b)) (c := c + n) b_56]; rfl)) rfl
          · have b_56 := Bi_eq0 h_56
            refine M_iinc (pc := 59) C dX8_gapAt_59 rfl (by decide) ?_
            refine M_goto (pc := 62) C (tgt := 40) dX8_gapAt_62 (by decide) ?_
            exact M.to (ih (by omega) (by rw [hin, gapLen_s (tk := (tkC (v 85) b)) (c := c + n) (by omega) b_56, show 16 - c - (n + 1) = 16 - c - n - 1 by omega, show c + (n + 1) = c + n + 1 by omega]; omega)) rfl rfl rfl
      · refine M_aload_n (pc := 25) C dX8_gapAt_25 rfl (by decide) ?_
        refine M_iload_n (pc := 26) C dX8_gapAt_26 rfl ?_
        refine M_iload_n (pc := 27) C dX8_gapAt_27 rfl ?_
        refine M_iconst (pc := 28) C dX8_gapAt_28 ?_
        refine M_isub (pc := 29) C dX8_gapAt_29 ?_
        refine A_cV (pc := 30) C (x := vI (Bi (isTk (v 85) ((b : Nat) : Int) (((c : Nat) : Int) - 1)))) (a := 84) (c := 8) (c_X8_isTaken hT hI (b := ((b : Nat) : Int)) (c := ((c : Nat) : Int) - 1) (by omega) (by omega)) yw_X8_isTaken lk_X8_65 rfl (congrArg Prod.fst (tt_84 hT)) hc_8 rfl dX8_gapAt_30 rfl (Nat.le_of_ble_eq_true rfl) (by decide) ⟨Nat.le_refl _, Nat.le_refl _⟩ ?_
        refine M_if_ne (pc := 33) C (tgt := 38) (Bi_i32 _) dX8_gapAt_33 (by decide) (fun h_33 => ?_) (fun h_33 => ?_)
        · have b_33 := Bi_ne0 h_33
          have hg : gapAt (decide (v 85 (3 + b) = 2)) (tkC (v 85) b) c = gapLen (tkC (v 85) b) (16 - c) c := gapAt_1 (decide_eq_true h_9) b_18 (by first | exact Or.inl (by omega) | exact Or.inr (by show isTk (v 85) b ((c - 1 : Nat) : Int) = true; rw [show ((c - 1 : Nat) : Int) = (c : Int) - 1 by omega]; exact b_33))
          refine M_iconst (pc := 38) C dX8_gapAt_38 ?_
          refine M_istore_n (pc := 39) C dX8_gapAt_39 (by decide) ?_
          refine loop_le (P := fun n => (gapLen (tkC (v 85) b) (16 - c) c = n + gapLen (tkC (v 85) b) (16 - c - n) (c + n)) → M κ N T 40 [some (vR 84), some (vI ((b : Nat) : Int)), some (vI ((c : Nat) : Int)), some (vI ((n : Nat) : Int))] [] v 0 0 (QR κ (some (vI ((gapAt (decide (v 85 (3 + b) = 2)) (tkC (v 85) b) c : Nat) : Int))) N T v 0 0)) (16 - c) (fun n hi ih => ?_) (by rw [Nat.zero_add]; rfl)
          intro hin
          refine M_iload_n (pc := 40) C dX8_gapAt_40 rfl ?_
          refine M_iload_n (pc := 41) C dX8_gapAt_41 rfl ?_
          refine M_iadd (pc := 42) C dX8_gapAt_42 ?_
          refine M_bipush (pc := 43) C (by decide) dX8_gapAt_43 ?_
          refine M_icmp_ge (pc := 45) C (tgt := 65) (by omega) (by omega) dX8_gapAt_45 (by decide) (fun h_45 => ?_) (fun h_45 => ?_)
          · refine M_iload_n (pc := 65) C dX8_gapAt_65 rfl ?_
            exact M_iret (pc := 66) C rfl dX8_gapAt_66 (by rw [hg, hin]; first | (rw [show 16 - c - n = 0 by omega]; rfl) | (rw [gapLen_0 (tk := (tkC (v 85) b)) (c := c + n) b_56]; rfl)) rfl
          · refine M_aload_n (pc := 48) C dX8_gapAt_48 rfl (by decide) ?_
            refine M_iload_n (pc := 49) C dX8_gapAt_49 rfl ?_
            refine M_iload_n (pc := 50) C dX8_gapAt_50 rfl ?_
            refine M_iload_n (pc := 51) C dX8_gapAt_51 rfl ?_
            refine M_iadd (pc := 52) C dX8_gapAt_52 ?_
            refine A_cV (pc := 53) C (x := vI (Bi (isTk (v 85) ((b : Nat) : Int) (((c : Nat) : Int) + ((n : Nat) : Int))))) (a := 84) (c := 8) (c_X8_isTaken hT hI (b := ((b : Nat) : Int)) (c := ((c : Nat) : Int) + ((n : Nat) : Int)) (by omega) (by omega)) yw_X8_isTaken lk_X8_65 rfl (congrArg Prod.fst (tt_84 hT)) hc_8 rfl dX8_gapAt_53 rfl (Nat.le_of_ble_eq_true rfl) (by decide) ⟨Nat.le_refl _, Nat.le_refl _⟩ ?_
            refine M_if_ne (pc := 56) C (tgt := 65) (Bi_i32 _) dX8_gapAt_56 (by decide) (fun h_56 => ?_) (fun h_56 => ?_)
            · have b_56 := Bi_ne0 h_56
              refine M_iload_n (pc := 65) C dX8_gapAt_65 rfl ?_
              exact M_iret (pc := 66) C rfl dX8_gapAt_66 (by rw [hg, hin]; first | (rw [show 16 - c - n = 0 by omega]; rfl) | (rw [gapLen_0 (tk := (tkC (v 85) b)) (c := c + n) b_56]; rfl)) rfl
            · have b_56 := Bi_eq0 h_56
              refine M_iinc (pc := 59) C dX8_gapAt_59 rfl (by decide) ?_
              refine M_goto (pc := 62) C (tgt := 40) dX8_gapAt_62 (by decide) ?_
              exact M.to (ih (by omega) (by rw [hin, gapLen_s (tk := (tkC (v 85) b)) (c := c + n) (by omega) b_56, show 16 - c - (n + 1) = 16 - c - n - 1 by omega, show c + (n + 1) = c + n + 1 by omega]; omega)) rfl rfl rfl
        · have b_33 := Bi_eq0 h_33
          refine M_iconst (pc := 36) C dX8_gapAt_36 ?_
          exact M_iret (pc := 37) C rfl dX8_gapAt_37 (by rw [gapAt_0 (by first | exact Or.inl (decide_eq_false h_9) | exact Or.inr (Or.inl b_18) | exact Or.inr (Or.inr ⟨by omega, by show isTk (v 85) b ((c - 1 : Nat) : Int) = false; rw [show ((c - 1 : Nat) : Int) = (c : Int) - 1 by omega]; exact b_33⟩))]; rfl) rfl
theorem c_X8_gapFor {N : Nat} {T : Ty} {x : Int} {v : Ct} (hT : TT T) (hI : RI (v 85)) (hx : i32 x) : Runs mX8_gapFor 5 0 0 [vR 84, vI x] N T v (some (vI (gapF (v 85) x))) N T v := by
  refine Runs.of (by decide) (Nat.le_of_ble_eq_true rfl) fun κ C => ?_
  refine M_iconst (pc := 0) C dX8_gapFor_0 ?_
  refine M_istore_n (pc := 1) C dX8_gapFor_1 (by decide) ?_
  refine M_bipush (pc := 2) C (by decide) dX8_gapFor_2 ?_
  refine M_istore_n (pc := 4) C dX8_gapFor_4 (by decide) ?_
  refine M_iconst (pc := 5) C dX8_gapFor_5 ?_
  refine M_istore (pc := 6) C dX8_gapFor_6 (by decide) ?_
  refine loop_le (P := fun i => M κ N T 8 [some (vR 84), some (vI x), some (vI ((gfN (v 85 2) x (gapK (v 85)) i).1)), some (vI ((gfN (v 85 2) x (gapK (v 85)) i).2)), some (vI ((i : Nat) : Int)), none, none] [] v 0 0 (QR κ (some (vI (gapF (v 85) x))) N T v 0 0)) 384 (fun i hi ih => ?_)
  have hb1 := gfN_bd (rule := v 85 2) (cells := x) (gapK_le (v 85)) i; have hb2 := gapK_le (v 85) i
  refine M_iload (pc := 8) C dX8_gapFor_8 rfl ?_
  refine M_sipush (pc := 10) C (by decide) dX8_gapFor_10 ?_
  refine M_icmp_ge (pc := 13) C (tgt := 98) (by omega) (by omega) dX8_gapFor_13 (by decide) (fun h_13 => ?_) (fun h_13 => ?_)
  · refine M_iload_n (pc := 98) C dX8_gapFor_98 rfl ?_
    exact M_iret (pc := 99) C rfl dX8_gapFor_99 (by rw [show i = 384 by omega]; rfl) rfl
  · refine M_aload_n (pc := 16) C dX8_gapFor_16 rfl (by decide) ?_
    refine M_iload (pc := 17) C dX8_gapFor_17 rfl ?_
    refine M_bipush (pc := 19) C (by decide) dX8_gapFor_19 ?_
    refine M_idiv (pc := 21) C (by omega) (by decide) dX8_gapFor_21 ?_
    refine M_iload (pc := 22) C dX8_gapFor_22 rfl ?_
    refine M_bipush (pc := 24) C (by decide) dX8_gapFor_24 ?_
    refine M_irem (pc := 26) C (by omega) (by decide) dX8_gapFor_26 ?_
    refine A_cV (pc := 27) C (x := vI ((gapK (v 85) i : Nat) : Int)) (a := 84) (c := 8) (c_X8_gapAt hT hI (b := i / 16) (c := i % 16) (by omega) (by omega)) yw_X8_gapAt lk_X8_68 rfl (congrArg Prod.fst (tt_84 hT)) hc_8 rfl dX8_gapFor_27 rfl (Nat.le_of_ble_eq_true rfl) (by decide) ⟨Nat.le_refl _, Nat.le_refl _⟩ ?_
    refine M_istore (pc := 30) C dX8_gapFor_30 (by decide) ?_
    have hj_66 : M κ N T 66 [some (vR 84), some (vI x), some (vI ((gfN (v 85 2) x (gapK (v 85)) i).1)), some (vI ((gfN (v 85 2) x (gapK (v 85)) i).2)), some (vI ((i : Nat) : Int)), some (vI ((gapK (v 85) i : Nat) : Int)), none] [vI (Bi (decide (x ≤ ((gapK (v 85) i : Nat) : Int) ∧ (if v 85 2 = 0 then (gfN (v 85 2) x (gapK (v 85)) i).1 = -1 else ((gapK (v 85) i : Nat) : Int) < (gfN (v 85 2) x (gapK (v 85)) i).2))))] v 0 0 (QR κ (some (vI (gapF (v 85) x))) N T v 0 0) := by
      refine M_istore (pc := 66) C dX8_gapFor_66 (by decide) ?_
      refine M_iload (pc := 68) C dX8_gapFor_68 rfl ?_
      refine M_if_eq (pc := 70) C (tgt := 78) (Bi_i32 _) dX8_gapFor_70 (by decide) (fun h_70 => ?_) (fun h_70 => ?_)
      · have b_70 := Bid_eq0 h_70
        have kb_70 := Bi_eq0 h_70
        refine M_iload_n (pc := 78) C dX8_gapFor_78 rfl ?_
        refine M_istore_n (pc := 79) C dX8_gapFor_79 (by decide) ?_
        refine M_iload (pc := 80) C dX8_gapFor_80 rfl ?_
        refine M_if_eq (pc := 82) C (tgt := 90) (Bi_i32 _) dX8_gapFor_82 (by decide) (fun _ => ?_) (fun h => absurd kb_70 (by rw [Bi_ne0 h]; decide))
        refine M_iload_n (pc := 90) C dX8_gapFor_90 rfl ?_
        refine M_istore_n (pc := 91) C dX8_gapFor_91 (by decide) ?_
        refine M_iinc (pc := 92) C dX8_gapFor_92 rfl (by decide) ?_
        refine M_goto (pc := 95) C (tgt := 8) dX8_gapFor_95 (by decide) ?_
        refine M.drop [true, true, true, true, true, false, false] rfl ?_
        exact M.to (ih (by omega)) (by first | (rw [gfN_t (of_decide_eq_true kb_70)]; rfl) | (rw [gfN_f (of_decide_eq_false kb_70)]; rfl)) rfl rfl
      · have b_70 := Bid_ne0 h_70
        have kb_70 := Bi_ne0 h_70
        refine M_iload (pc := 73) C dX8_gapFor_73 rfl ?_
        refine M_goto (pc := 75) C (tgt := 79) dX8_gapFor_75 (by decide) ?_
        refine M_istore_n (pc := 79) C dX8_gapFor_79 (by decide) ?_
        refine M_iload (pc := 80) C dX8_gapFor_80 rfl ?_
        refine M_if_eq (pc := 82) C (tgt := 90) (Bi_i32 _) dX8_gapFor_82 (by decide) (fun h => absurd kb_70 (by rw [Bi_eq0 h]; decide)) (fun _ => ?_)
        refine M_iload (pc := 85) C dX8_gapFor_85 rfl ?_
        refine M_goto (pc := 87) C (tgt := 91) dX8_gapFor_87 (by decide) ?_
        refine M_istore_n (pc := 91) C dX8_gapFor_91 (by decide) ?_
        refine M_iinc (pc := 92) C dX8_gapFor_92 rfl (by decide) ?_
        refine M_goto (pc := 95) C (tgt := 8) dX8_gapFor_95 (by decide) ?_
        refine M.drop [true, true, true, true, true, false, false] rfl ?_
        exact M.to (ih (by omega)) (by first | (rw [gfN_t (of_decide_eq_true kb_70)]; rfl) | (rw [gfN_f (of_decide_eq_false kb_70)]; rfl)) rfl rfl
    refine M_rd (pc := 32) C 85 2 (fun (r_32_0 : i32 (v 85 2)) => ?_)
    refine M_iload (pc := 32) C dX8_gapFor_32 rfl ?_
    refine M_iload_n (pc := 34) C dX8_gapFor_34 rfl ?_
    refine M_icmp_lt (pc := 35) C (tgt := 65) (by omega) (by omega) dX8_gapFor_35 (by decide) (fun h_35 => ?_) (fun h_35 => ?_)
    · refine M_iconst (pc := 65) C dX8_gapFor_65 ?_
      exact M.to hj_66 rfl (by first | (rw [decide_eq_true (by refine ⟨by omega, ?_⟩; first | (rw [if_pos (by omega)]; omega) | (rw [if_neg (by omega)]; omega))]; rfl) | (rw [decide_eq_false (fun q => absurd q.1 (by omega))]; rfl) | (rw [decide_eq_false (fun q => by have q2 := q.2; first | (rw [if_pos (by omega)] at q2; omega) | (rw [if_neg (by omega)] at q2; omega))]; rfl)) rfl
    · refine M_aload_n (pc := 38) C dX8_gapFor_38 rfl (by decide) ?_
      refine A_getR (pc := 39) C fl_X8_7 rfl (a := 84) (j := 85) rfl (tt_84 hT) rfl dX8_gapFor_39 ?_
      refine M_iconst (pc := 42) C dX8_gapFor_42 ?_
      refine A_iald (pc := 43) C (a := 85) (q := 2) rfl (tt_85 hT) (by decide) rfl (by omega) dX8_gapFor_43 (fun (r_43 : i32 (v 85 2)) => ?_)
      refine M_if_ne (pc := 44) C (tgt := 55) (by omega) dX8_gapFor_44 (by decide) (fun h_44 => ?_) (fun h_44 => ?_)
      · refine M_iload (pc := 55) C dX8_gapFor_55 rfl ?_
        refine M_iload_n (pc := 57) C dX8_gapFor_57 rfl ?_
        refine M_icmp_ge (pc := 58) C (tgt := 65) (by omega) (by omega) dX8_gapFor_58 (by decide) (fun h_58 => ?_) (fun h_58 => ?_)
        · refine M_iconst (pc := 65) C dX8_gapFor_65 ?_
          exact M.to hj_66 rfl (by first | (rw [decide_eq_true (by refine ⟨by omega, ?_⟩; first | (rw [if_pos (by omega)]; omega) | (rw [if_neg (by omega)]; omega))]; rfl) | (rw [decide_eq_false (fun q => absurd q.1 (by omega))]; rfl) | (rw [decide_eq_false (fun q => by have q2 := q.2; first | (rw [if_pos (by omega)] at q2; omega) | (rw [if_neg (by omega)] at q2; omega))]; rfl)) rfl
        · refine M_iconst (pc := 61) C dX8_gapFor_61 ?_
          refine M_goto (pc := 62) C (tgt := 66) dX8_gapFor_62 (by decide) ?_
          exact M.to hj_66 rfl (by first | (rw [decide_eq_true (by refine ⟨by omega, ?_⟩; first | (rw [if_pos (by omega)]; omega) | (rw [if_neg (by omega)]; omega))]; rfl) | (rw [decide_eq_false (fun q => absurd q.1 (by omega))]; rfl) | (rw [decide_eq_false (fun q => by have q2 := q.2; first | (rw [if_pos (by omega)] at q2; omega) | (rw [if_neg (by omega)] at q2; omega))]; rfl)) rfl
      · refine M_iload_n (pc := 47) C dX8_gapFor_47 rfl ?_
        refine M_iconst (pc := 48) C dX8_gapFor_48 ?_
        refine M_icmp_ne (pc := 49) C (tgt := 65) (by omega) (by omega) dX8_gapFor_49 (by decide) (fun h_49 => ?_) (fun h_49 => ?_)
        · refine M_iconst (pc := 65) C dX8_gapFor_65 ?_
          exact M.to hj_66 rfl (by first | (rw [decide_eq_true (by refine ⟨by omega, ?_⟩; first | (rw [if_pos (by omega)]; omega) | (rw [if_neg (by omega)]; omega))]; rfl) | (rw [decide_eq_false (fun q => absurd q.1 (by omega))]; rfl) | (rw [decide_eq_false (fun q => by have q2 := q.2; first | (rw [if_pos (by omega)] at q2; omega) | (rw [if_neg (by omega)] at q2; omega))]; rfl)) rfl
        · refine M_goto (pc := 52) C (tgt := 61) dX8_gapFor_52 (by decide) ?_
          refine M_iconst (pc := 61) C dX8_gapFor_61 ?_
          refine M_goto (pc := 62) C (tgt := 66) dX8_gapFor_62 (by decide) ?_
          exact M.to hj_66 rfl (by first | (rw [decide_eq_true (by refine ⟨by omega, ?_⟩; first | (rw [if_pos (by omega)]; omega) | (rw [if_neg (by omega)]; omega))]; rfl) | (rw [decide_eq_false (fun q => absurd q.1 (by omega))]; rfl) | (rw [decide_eq_false (fun q => by have q2 := q.2; first | (rw [if_pos (by omega)] at q2; omega) | (rw [if_neg (by omega)] at q2; omega))]; rfl)) rfl
theorem c_X8_placeFor {N : Nat} {T : Ty} {x : Int} {v : Ct} (hT : TT T) (hI : RI (v 85)) (hx : i32 x) : Runs mX8_placeFor 6 0 0 [vR 84, vI x] N T v (some (vI (plcF (v 85) x))) N T v := by
  have hb1 := gapF_bd (v 85) x; have hb2 := lowF_bd (v 85)
  refine Runs.of (by decide) (Nat.le_of_ble_eq_true rfl) fun κ C => ?_
  refine M_aload_n (pc := 0) C dX8_placeFor_0 rfl (by decide) ?_
  refine M_iload_n (pc := 1) C dX8_placeFor_1 rfl ?_
  refine A_cV (pc := 2) C (x := vI (gapF (v 85) x)) (a := 84) (c := 8) (c_X8_gapFor hT hI (x := x) (by omega)) yw_X8_gapFor lk_X8_71 rfl (congrArg Prod.fst (tt_84 hT)) hc_8 rfl dX8_placeFor_2 rfl (Nat.le_of_ble_eq_true rfl) (by decide) ⟨Nat.le_refl _, Nat.le_refl _⟩ ?_
  refine M_istore_n (pc := 5) C dX8_placeFor_5 (by decide) ?_
  refine M_aload_n (pc := 6) C dX8_placeFor_6 rfl (by decide) ?_
  refine A_cV (pc := 7) C (x := vI (lowF (v 85))) (a := 84) (c := 8) (c_X8_lowestFree hT) yw_X8_lowestFree lk_X8_74 rfl (congrArg Prod.fst (tt_84 hT)) hc_8 rfl dX8_placeFor_7 rfl (Nat.le_of_ble_eq_true rfl) (by decide) ⟨Nat.le_refl _, Nat.le_refl _⟩ ?_
  refine M_istore_n (pc := 10) C dX8_placeFor_10 (by decide) ?_
  refine M_iload_n (pc := 11) C dX8_placeFor_11 rfl ?_
  refine M_iconst (pc := 12) C dX8_placeFor_12 ?_
  refine M_icmp_eq (pc := 13) C (tgt := 20) (by omega) (by omega) dX8_placeFor_13 (by decide) (fun h_13 => ?_) (fun h_13 => ?_)
  · refine M_iload_n (pc := 20) C dX8_placeFor_20 rfl ?_
    refine M_iconst (pc := 21) C dX8_placeFor_21 ?_
    refine M_icmp_ne (pc := 22) C (tgt := 29) (by omega) (by omega) dX8_placeFor_22 (by decide) (fun h_22 => ?_) (fun h_22 => ?_)
    · refine M_bipush (pc := 29) C (by decide) dX8_placeFor_29 ?_
      refine M_iload_n (pc := 31) C dX8_placeFor_31 rfl ?_
      refine M_imul (pc := 32) C dX8_placeFor_32 ?_
      exact M_iret (pc := 33) C rfl dX8_placeFor_33 (by unfold plcF; first | (rw [if_pos (by omega)]; done) | (rw [if_neg (by omega), if_pos (by omega)]; done) | (rw [if_neg (by omega), if_neg (by omega)]; done)) rfl
    · refine M_iconst (pc := 25) C dX8_placeFor_25 ?_
      refine M_goto (pc := 26) C (tgt := 33) dX8_placeFor_26 (by decide) ?_
      exact M_iret (pc := 33) C rfl dX8_placeFor_33 (by unfold plcF; first | (rw [if_pos (by omega)]; done) | (rw [if_neg (by omega), if_pos (by omega)]; done) | (rw [if_neg (by omega), if_neg (by omega)]; done)) rfl
  · refine M_iload_n (pc := 16) C dX8_placeFor_16 rfl ?_
    refine M_goto (pc := 17) C (tgt := 33) dX8_placeFor_17 (by decide) ?_
    exact M_iret (pc := 33) C rfl dX8_placeFor_33 (by unfold plcF; first | (rw [if_pos (by omega)]; done) | (rw [if_neg (by omega), if_pos (by omega)]; done) | (rw [if_neg (by omega), if_neg (by omega)]; done)) rfl
theorem c_X8_freeNumber {N : Nat} {T : Ty} {v : Ct} (hT : TT T)  : Runs mX8_freeNumber 1 0 0 [vR 84] N T v (some (vI (frnF (v 85)))) N T v := by
  refine Runs.of (by decide) (Nat.le_of_ble_eq_true rfl) fun κ C => ?_
  refine M_iconst (pc := 0) C dX8_freeNumber_0 ?_
  refine M_istore_n (pc := 1) C dX8_freeNumber_1 (by decide) ?_
  refine loop_le (P := fun i => (∀ j, j < i → (fun f => decide (ro (v 85) f 0 = 0)) j = false) → M κ N T 2 [some (vR 84), some (vI ((i : Nat) : Int))] [] v 0 0 (QR κ (some (vI (frnF (v 85)))) N T v 0 0)) 10 (fun i hi ih => ?_) (fun j hj => absurd hj (Nat.not_lt_zero j))
  intro hin
  refine M_iload_n (pc := 2) C dX8_freeNumber_2 rfl ?_
  refine M_bipush (pc := 3) C (by decide) dX8_freeNumber_3 ?_
  refine M_icmp_ge (pc := 5) C (tgt := 25) (by omega) (by omega) dX8_freeNumber_5 (by decide) (fun h_5 => ?_) (fun h_5 => ?_)
  · refine M_iconst (pc := 25) C dX8_freeNumber_25 ?_
    exact M_iret (pc := 26) C rfl dX8_freeNumber_26 (by first | (rw [show frnF (v 85) = i from firstN_at (p := fun f => decide (ro (v 85) f 0 = 0)) hin (decide_eq_true (by omega)) (by omega)]) | (rw [show frnF (v 85) = -1 from firstN_none (p := fun f => decide (ro (v 85) f 0 = 0)) (fun j hj => hin j (by omega))])) rfl
  · refine M_aload_n (pc := 8) C dX8_freeNumber_8 rfl (by decide) ?_
    refine M_iload_n (pc := 9) C dX8_freeNumber_9 rfl ?_
    refine M_iconst (pc := 10) C dX8_freeNumber_10 ?_
    refine A_cV (pc := 11) C (x := vI (ro (v 85) i 0)) (a := 84) (c := 8) (c_X8_of (f := i) (w := 0) hT (by omega)) yw_X8_of lk_X8_49 rfl (congrArg Prod.fst (tt_84 hT)) hc_8 rfl dX8_freeNumber_11 rfl (Nat.le_of_ble_eq_true rfl) (by decide) ⟨Nat.le_refl _, Nat.le_refl _⟩ ?_
    refine M_rd (pc := 14) C 85 (27 + 18 * i + 0) (fun (r_11_0 : i32 (ro (v 85) i 0)) => ?_)
    refine M_if_ne (pc := 14) C (tgt := 19) (by omega) dX8_freeNumber_14 (by decide) (fun h_14 => ?_) (fun h_14 => ?_)
    · refine M_iinc (pc := 19) C dX8_freeNumber_19 rfl (by decide) ?_
      refine M_goto (pc := 22) C (tgt := 2) dX8_freeNumber_22 (by decide) ?_
      exact M.to (ih (by omega) (fun j hj => by by_cases e : j = i; (rw [e]; exact decide_eq_false (by omega)); exact hin j (by omega))) rfl rfl rfl
    · refine M_iload_n (pc := 17) C dX8_freeNumber_17 rfl ?_
      exact M_iret (pc := 18) C rfl dX8_freeNumber_18 (by first | (rw [show frnF (v 85) = i from firstN_at (p := fun f => decide (ro (v 85) f 0 = 0)) hin (decide_eq_true (by omega)) (by omega)]) | (rw [show frnF (v 85) = -1 from firstN_none (p := fun f => decide (ro (v 85) f 0 = 0)) (fun j hj => hin j (by omega))])) rfl
theorem c_X8_hasIn {N : Nat} {T : Ty} {f : Nat} {b : Int} {v : Ct} (hT : TT T) (hI : RI (v 85)) (hf : f < 10) (hb : i32 b) : Runs mX8_hasIn 3 0 0 [vR 84, vI ((f : Nat) : Int), vI b] N T v (some (vI (Bi (hasIn (v 85) f b)))) N T v := by
  have hf1 := (hI f hf).2.1
  refine Runs.of (by decide) (Nat.le_of_ble_eq_true rfl) fun κ C => ?_
  refine M_aload_n (pc := 0) C dX8_hasIn_0 rfl (by decide) ?_
  refine M_iload_n (pc := 1) C dX8_hasIn_1 rfl ?_
  refine M_iload_n (pc := 2) C dX8_hasIn_2 rfl ?_
  refine A_cV (pc := 3) C (x := vI (Bi (hasT (v 85) f b))) (a := 84) (c := 8) (c_X8_hasTailIn hT hI (f := f) (b := b) (by omega) (by omega)) yw_X8_hasTailIn lk_X8_61 rfl (congrArg Prod.fst (tt_84 hT)) hc_8 rfl dX8_hasIn_3 rfl (Nat.le_of_ble_eq_true rfl) (by decide) ⟨Nat.le_refl _, Nat.le_refl _⟩ ?_
  refine M_istore_n (pc := 6) C dX8_hasIn_6 (by decide) ?_
  refine M.to (L2 := [some (vR 84), some (vI ((f : Nat) : Int)), some (vI b), some (vI (Bi (hasT (v 85) f b || orN (fun k => decide (ro (v 85) f (6 + k) = b)) 0))), none]) ?_ (by show _ = [some (vR 84), some (vI ((f : Nat) : Int)), some (vI b), some (vI (Bi (hasT (v 85) f b || false))), none]; rw [Bool.or_false]; rfl) rfl rfl
  refine M_iconst (pc := 7) C dX8_hasIn_7 ?_
  refine M_istore (pc := 8) C dX8_hasIn_8 (by decide) ?_
  refine loop_le (P := fun i => (i = 0 ∨ ro (v 85) f 0 = 1) → M κ N T 10 [some (vR 84), some (vI ((f : Nat) : Int)), some (vI b), some (vI (Bi (hasT (v 85) f b || orN (fun k => decide (ro (v 85) f (6 + k) = b)) i))), some (vI ((i : Nat) : Int))] [] v 0 0 (QR κ (some (vI (Bi (hasIn (v 85) f b)))) N T v 0 0)) ((ro (v 85) f 1 / 16).toNat) (fun i hi ih => ?_) (Or.inl rfl)
  intro hin
  refine M_aload_n (pc := 10) C dX8_hasIn_10 rfl (by decide) ?_
  refine M_iload_n (pc := 11) C dX8_hasIn_11 rfl ?_
  refine A_cV (pc := 12) C (x := vI (Bi (decide (ro (v 85) f 0 = 1)))) (a := 84) (c := 8) (c_X8_isFile_n hT (f := f) (by omega)) yw_X8_isFile lk_X8_53 rfl (congrArg Prod.fst (tt_84 hT)) hc_8 rfl dX8_hasIn_12 rfl (Nat.le_of_ble_eq_true rfl) (by decide) ⟨Nat.le_refl _, Nat.le_refl _⟩ ?_
  refine M_if_eq (pc := 15) C (tgt := 58) (Bi_i32 _) dX8_hasIn_15 (by decide) (fun h_15 => ?_) (fun h_15 => ?_)
  · have b_15 := Bid_eq0 h_15
    refine M_iload_n (pc := 58) C dX8_hasIn_58 rfl ?_
    exact M_zret (pc := 59) C rfl (Bi_01 _) dX8_hasIn_59 (by unfold hasIn; first | (rw [decide_eq_true b_15, Bool.true_and, show i = (ro (v 85) f 1 / 16).toNat by omega]) | (rw [decide_eq_false b_15, Bool.false_and]; rcases hin with e | e; (rw [e]; rfl); exact absurd e b_15)) rfl
  · have b_15 := Bid_ne0 h_15
    refine M_iload (pc := 18) C dX8_hasIn_18 rfl ?_
    refine M_aload_n (pc := 20) C dX8_hasIn_20 rfl (by decide) ?_
    refine M_iload_n (pc := 21) C dX8_hasIn_21 rfl ?_
    refine A_cV (pc := 22) C (x := vI (ro (v 85) f 1 / 16)) (a := 84) (c := 8) (c_X8_wholeOf hT hI (f := f) (by omega)) yw_X8_wholeOf lk_X8_93 rfl (congrArg Prod.fst (tt_84 hT)) hc_8 rfl dX8_hasIn_22 rfl (Nat.le_of_ble_eq_true rfl) (by decide) ⟨Nat.le_refl _, Nat.le_refl _⟩ ?_
    refine M_icmp_ge (pc := 25) C (tgt := 58) (by omega) (by omega) dX8_hasIn_25 (by decide) (fun h_25 => ?_) (fun h_25 => ?_)
    · refine M_iload_n (pc := 58) C dX8_hasIn_58 rfl ?_
      exact M_zret (pc := 59) C rfl (Bi_01 _) dX8_hasIn_59 (by unfold hasIn; first | (rw [decide_eq_true b_15, Bool.true_and, show i = (ro (v 85) f 1 / 16).toNat by omega]) | (rw [decide_eq_false b_15, Bool.false_and]; rcases hin with e | e; (rw [e]; rfl); exact absurd e b_15)) rfl
    · refine M_iload_n (pc := 28) C dX8_hasIn_28 rfl ?_
      refine M_if_ne (pc := 29) C (tgt := 46) (Bi_i32 _) dX8_hasIn_29 (by decide) (fun h_29 => ?_) (fun h_29 => ?_)
      · have b_29 := Bi_ne0 h_29
        refine M_iconst (pc := 46) C dX8_hasIn_46 ?_
        refine M_goto (pc := 47) C (tgt := 51) dX8_hasIn_47 (by decide) ?_
        refine M_istore_n (pc := 51) C dX8_hasIn_51 (by decide) ?_
        refine M_iinc (pc := 52) C dX8_hasIn_52 rfl (by decide) ?_
        refine M_goto (pc := 55) C (tgt := 10) dX8_hasIn_55 (by decide) ?_
        have hz : (hasT (v 85) f b || orN (fun k => decide (ro (v 85) f (6 + k) = b)) (i + 1)) = ((hasT (v 85) f b || orN (fun k => decide (ro (v 85) f (6 + k) = b)) i) || decide (ro (v 85) f (6 + i) = b)) := by rw [Bool.or_assoc]; rfl
        exact M.to (ih (by omega) (Or.inr b_15)) (by rw [hz]; first | (rw [b_29]; rfl) | (rw [b_29, Bool.false_or])) rfl rfl
      · have b_29 := Bi_eq0 h_29
        refine M_aload_n (pc := 32) C dX8_hasIn_32 rfl (by decide) ?_
        refine M_iload_n (pc := 33) C dX8_hasIn_33 rfl ?_
        refine M_bipush (pc := 34) C (by decide) dX8_hasIn_34 ?_
        refine M_iload (pc := 36) C dX8_hasIn_36 rfl ?_
        refine M_iadd (pc := 38) C dX8_hasIn_38 ?_
        refine A_cV (pc := 39) C (x := vI (ro (v 85) f (6 + i))) (a := 84) (c := 8) (c_X8_of (f := f) (w := 6 + i) hT (by omega)) yw_X8_of lk_X8_49 rfl (congrArg Prod.fst (tt_84 hT)) hc_8 rfl dX8_hasIn_39 rfl (Nat.le_of_ble_eq_true rfl) (by decide) ⟨Nat.le_refl _, Nat.le_refl _⟩ ?_
        refine M_rd (pc := 42) C 85 (27 + 18 * f + (6 + i)) (fun (r_39_0 : i32 (ro (v 85) f (6 + i))) => ?_)
        refine M_iload_n (pc := 42) C dX8_hasIn_42 rfl ?_
        refine T_icmp_ne (pc := 43) C (by omega) (by omega) dX8_hasIn_43 dX8_hasIn_46 dX8_hasIn_47 dX8_hasIn_50 ?_
        refine M_istore_n (pc := 51) C dX8_hasIn_51 (by decide) ?_
        refine M_iinc (pc := 52) C dX8_hasIn_52 rfl (by decide) ?_
        refine M_goto (pc := 55) C (tgt := 10) dX8_hasIn_55 (by decide) ?_
        have hz : (hasT (v 85) f b || orN (fun k => decide (ro (v 85) f (6 + k) = b)) (i + 1)) = ((hasT (v 85) f b || orN (fun k => decide (ro (v 85) f (6 + k) = b)) i) || decide (ro (v 85) f (6 + i) = b)) := by rw [Bool.or_assoc]; rfl
        exact M.to (ih (by omega) (Or.inr b_15)) (by rw [hz]; first | (rw [b_29]; rfl) | (rw [b_29, Bool.false_or])) rfl rfl
