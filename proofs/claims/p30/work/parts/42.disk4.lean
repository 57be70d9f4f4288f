theorem c_X0_whereIs {N : Nat} {T : Ty} {f c : Nat} {v : Ct} (hT : TT T) (hD : DI (v 5) (v 6) (v 7) (v 8)) (hf : f < 10) (hz : v 5 f ≠ -1) (hB : v 5 f % 16 ≠ 0 → v 6 f ≠ -1) (hc : (c : Int) < v 5 f) : Runs mX0_whereIs 2 0 0 [vR 1, vI ((f : Nat) : Int), vI ((c : Nat) : Int)] N T v (some (vI (wiN (v 2) (v 3) (v 4) (v 5) (v 6) (v 7) f c))) N T v := by
  have hf1 := hD f hf
  refine Runs.of (by decide) (Nat.le_of_ble_eq_true rfl) fun κ C => ?_
  refine M_aload_n (pc := 0) C dX0_whereIs_0 rfl (by decide) ?_
  refine M_iload_n (pc := 1) C dX0_whereIs_1 rfl ?_
  refine A_cV (pc := 2) C (x := vI (Bi (decide (v 5 f ≠ -1)))) (a := 1) (c := 0) (c_X0_exists_n hT (f := f) (by omega)) yw_X0_exists lk_X0_46 rfl (congrArg Prod.fst (tt_1 hT)) hc_0 rfl dX0_whereIs_2 rfl (Nat.le_of_ble_eq_true rfl) (by decide) ⟨Nat.le_refl _, Nat.le_refl _⟩ ?_
  refine M_rd (pc := 5) C 5 f (fun (r_2_0 : i32 (v 5 f)) => ?_)
  refine M_if_eq (pc := 5) C (tgt := 22) (Bi_i32 _) dX0_whereIs_5 (by decide) (fun h_5 => ?_) (fun h_5 => ?_)
  · have b_5 := Bid_eq0 h_5
    exact absurd hz b_5
  · have b_5 := Bid_ne0 h_5
    refine M_iload_n (pc := 8) C dX0_whereIs_8 rfl ?_
    refine M_if_lt (pc := 9) C (tgt := 22) (by omega) dX0_whereIs_9 (by decide) (fun h_9 => ?_) (fun h_9 => ?_)
    · exfalso
      omega
    · refine M_iload_n (pc := 12) C dX0_whereIs_12 rfl ?_
      refine M_aload_n (pc := 13) C dX0_whereIs_13 rfl (by decide) ?_
      refine A_getR (pc := 14) C fl_X0_21 rfl (a := 1) (j := 5) rfl (tt_1 hT) (by decide) dX0_whereIs_14 ?_
      refine M_iload_n (pc := 17) C dX0_whereIs_17 rfl ?_
      refine A_iald (pc := 18) C (a := 5) (q := f) rfl (tt_5 hT) (by decide) rfl (by omega) dX0_whereIs_18 (fun (r_18 : i32 (v 5 f)) => ?_)
      refine M_icmp_lt (pc := 19) C (tgt := 24) (by omega) (by omega) dX0_whereIs_19 (by decide) (fun h_19 => ?_) (fun h_19 => ?_)
      · refine M_iload_n (pc := 24) C dX0_whereIs_24 rfl ?_
        refine M_bipush (pc := 25) C (by decide) dX0_whereIs_25 ?_
        refine M_idiv (pc := 27) C (by omega) (by decide) dX0_whereIs_27 ?_
        refine M_aload_n (pc := 28) C dX0_whereIs_28 rfl (by decide) ?_
        refine A_getR (pc := 29) C fl_X0_21 rfl (a := 1) (j := 5) rfl (tt_1 hT) (by decide) dX0_whereIs_29 ?_
        refine M_iload_n (pc := 32) C dX0_whereIs_32 rfl ?_
        refine A_iald (pc := 33) C (a := 5) (q := f) rfl (tt_5 hT) (by decide) rfl (by omega) dX0_whereIs_33 (fun (r_33 : i32 (v 5 f)) => ?_)
        refine M_bipush (pc := 34) C (by decide) dX0_whereIs_34 ?_
        refine M_idiv (pc := 36) C (by omega) (by decide) dX0_whereIs_36 ?_
        refine M_icmp_ne (pc := 37) C (tgt := 77) (by omega) (by omega) dX0_whereIs_37 (by decide) (fun h_37 => ?_) (fun h_37 => ?_)
        · have e1 : wiN (v 2) (v 3) (v 4) (v 5) (v 6) (v 7) f c = wiW (v 2) c (firstN (fun b => decide (v 3 b = ((f : Nat) : Int)) && decide (v 4 b = ((c / 16 : Nat) : Int))) 24) := if_neg (by omega)
          refine M_iconst (pc := 77) C dX0_whereIs_77 ?_
          refine M_istore_n (pc := 78) C dX0_whereIs_78 (by decide) ?_
          refine loop_le (P := fun i => (∀ j, j < i → (fun b => decide (v 3 b = ((f : Nat) : Int)) && decide (v 4 b = ((c / 16 : Nat) : Int))) j = false) → M κ N T 79 [some (vR 1), some (vI ((f : Nat) : Int)), some (vI ((c : Nat) : Int)), some (vI ((i : Nat) : Int))] [] v 0 0 (QR κ (some (vI (wiN (v 2) (v 3) (v 4) (v 5) (v 6) (v 7) f c))) N T v 0 0)) 24 (fun i hi ih => ?_) (fun j hj => absurd hj (Nat.not_lt_zero j))
          intro hin
          refine M_iload_n (pc := 79) C dX0_whereIs_79 rfl ?_
          refine M_bipush (pc := 80) C (by decide) dX0_whereIs_80 ?_
          refine M_icmp_ge (pc := 82) C (tgt := 138) (by omega) (by omega) dX0_whereIs_82 (by decide) (fun h_82 => ?_) (fun h_82 => ?_)
          · refine M_iconst (pc := 138) C dX0_whereIs_138 ?_
            exact M_iret (pc := 139) C rfl dX0_whereIs_139 (by rw [e1, firstN_none (p := (fun b => decide (v 3 b = ((f : Nat) : Int)) && decide (v 4 b = ((c / 16 : Nat) : Int)))) (fun j hj => hin j (by omega))]; rfl) rfl
          · refine M_aload_n (pc := 85) C dX0_whereIs_85 rfl (by decide) ?_
            refine A_getR (pc := 86) C fl_X0_15 rfl (a := 1) (j := 3) rfl (tt_1 hT) (by decide) dX0_whereIs_86 ?_
            refine M_iload_n (pc := 89) C dX0_whereIs_89 rfl ?_
            refine A_iald (pc := 90) C (a := 3) (q := i) rfl (tt_3 hT) (by decide) rfl (by omega) dX0_whereIs_90 (fun (r_90 : i32 (v 3 i)) => ?_)
            refine M_iload_n (pc := 91) C dX0_whereIs_91 rfl ?_
            refine M_icmp_ne (pc := 92) C (tgt := 132) (by omega) (by omega) dX0_whereIs_92 (by decide) (fun h_92 => ?_) (fun h_92 => ?_)
            · refine M_iinc (pc := 132) C dX0_whereIs_132 rfl (by decide) ?_
              refine M_goto (pc := 135) C (tgt := 79) dX0_whereIs_135 (by decide) ?_
              have hq : (decide (v 3 i = ((f : Nat) : Int)) && decide (v 4 i = ((c / 16 : Nat) : Int))) = false := by first | (rw [decide_eq_false (p := v 3 i = ((f : Nat) : Int)) (by omega), Bool.false_and]; done) | (rw [decide_eq_false (p := v 4 i = ((c / 16 : Nat) : Int)) (by omega), Bool.and_false]; done)
              exact M.to (ih (by omega) (fun j hj => if e : j = i then (by rw [e]; exact hq) else hin j (by omega))) rfl rfl rfl
            · refine M_aload_n (pc := 95) C dX0_whereIs_95 rfl (by decide) ?_
              refine A_getR (pc := 96) C fl_X0_18 rfl (a := 1) (j := 4) rfl (tt_1 hT) (by decide) dX0_whereIs_96 ?_
              refine M_iload_n (pc := 99) C dX0_whereIs_99 rfl ?_
              refine A_iald (pc := 100) C (a := 4) (q := i) rfl (tt_4 hT) (by decide) rfl (by omega) dX0_whereIs_100 (fun (r_100 : i32 (v 4 i)) => ?_)
              refine M_iload_n (pc := 101) C dX0_whereIs_101 rfl ?_
              refine M_bipush (pc := 102) C (by decide) dX0_whereIs_102 ?_
              refine M_idiv (pc := 104) C (by omega) (by decide) dX0_whereIs_104 ?_
              refine M_icmp_ne (pc := 105) C (tgt := 132) (by omega) (by omega) dX0_whereIs_105 (by decide) (fun h_105 => ?_) (fun h_105 => ?_)
              · refine M_iinc (pc := 132) C dX0_whereIs_132 rfl (by decide) ?_
                refine M_goto (pc := 135) C (tgt := 79) dX0_whereIs_135 (by decide) ?_
                have hq : (decide (v 3 i = ((f : Nat) : Int)) && decide (v 4 i = ((c / 16 : Nat) : Int))) = false := by first | (rw [decide_eq_false (p := v 3 i = ((f : Nat) : Int)) (by omega), Bool.false_and]; done) | (rw [decide_eq_false (p := v 4 i = ((c / 16 : Nat) : Int)) (by omega), Bool.and_false]; done)
                exact M.to (ih (by omega) (fun j hj => if e : j = i then (by rw [e]; exact hq) else hin j (by omega))) rfl rfl rfl
              · have hfs : firstN (fun b => decide (v 3 b = ((f : Nat) : Int)) && decide (v 4 b = ((c / 16 : Nat) : Int))) 24 = ((i : Nat) : Int) := firstN_at (p := (fun b => decide (v 3 b = ((f : Nat) : Int)) && decide (v 4 b = ((c / 16 : Nat) : Int)))) hin (by show (decide (v 3 i = ((f : Nat) : Int)) && decide (v 4 i = ((c / 16 : Nat) : Int))) = true; rw [decide_eq_true (p := v 3 i = ((f : Nat) : Int)) (by omega), decide_eq_true (p := v 4 i = ((c / 16 : Nat) : Int)) (by omega)]; rfl) (by omega)
                refine M_aload_n (pc := 108) C dX0_whereIs_108 rfl (by decide) ?_
                refine A_getR (pc := 109) C fl_X0_9 rfl (a := 1) (j := 2) rfl (tt_1 hT) (by decide) dX0_whereIs_109 ?_
                refine M_iload_n (pc := 112) C dX0_whereIs_112 rfl ?_
                refine A_iald (pc := 113) C (a := 2) (q := i) rfl (tt_2 hT) (by decide) rfl (by omega) dX0_whereIs_113 (fun (r_113 : i32 (v 2 i)) => ?_)
                refine M_iconst (pc := 114) C dX0_whereIs_114 ?_
                refine M_icmp_ne (pc := 115) C (tgt := 122) (by omega) (by omega) dX0_whereIs_115 (by decide) (fun h_115 => ?_) (fun h_115 => ?_)
                · refine M_bipush (pc := 122) C (by decide) dX0_whereIs_122 ?_
                  refine M_iload_n (pc := 124) C dX0_whereIs_124 rfl ?_
                  refine M_imul (pc := 125) C dX0_whereIs_125 ?_
                  refine M_iload_n (pc := 126) C dX0_whereIs_126 rfl ?_
                  refine M_bipush (pc := 127) C (by decide) dX0_whereIs_127 ?_
                  refine M_irem (pc := 129) C (by omega) (by decide) dX0_whereIs_129 ?_
                  refine M_iadd (pc := 130) C dX0_whereIs_130 ?_
                  exact M_iret (pc := 131) C rfl dX0_whereIs_131 (by rw [e1, hfs]; unfold wiW; rw [if_neg (by omega), Int.toNat_natCast]; first | (rw [if_pos (by omega)]; done) | (rw [if_neg (by omega)]; rfl)) rfl
                · refine M_iconst (pc := 118) C dX0_whereIs_118 ?_
                  refine M_goto (pc := 119) C (tgt := 131) dX0_whereIs_119 (by decide) ?_
                  exact M_iret (pc := 131) C rfl dX0_whereIs_131 (by rw [e1, hfs]; unfold wiW; rw [if_neg (by omega), Int.toNat_natCast]; first | (rw [if_pos (by omega)]; done) | (rw [if_neg (by omega)]; rfl)) rfl
        · have e1 : wiN (v 2) (v 3) (v 4) (v 5) (v 6) (v 7) f c = (if v 2 (v 6 f).toNat = 3 then -1 else 16 * v 6 f + v 7 f + ((c % 16 : Nat) : Int)) := if_pos (by omega)
          have hB2 := hf1.2.1 (hB (by omega))
          obtain ⟨b, hb⟩ : ∃ b : Nat, v 6 f = (b : Int) := ⟨(v 6 f).toNat, by omega⟩
          refine M_aload_n (pc := 40) C dX0_whereIs_40 rfl (by decide) ?_
          refine A_getR (pc := 41) C fl_X0_24 rfl (a := 1) (j := 6) rfl (tt_1 hT) (by decide) dX0_whereIs_41 ?_
          refine M_iload_n (pc := 44) C dX0_whereIs_44 rfl ?_
          refine A_iald (pc := 45) C (a := 6) (q := f) rfl (tt_6 hT) (by decide) rfl (by omega) dX0_whereIs_45 (fun (r_45 : i32 (v 6 f)) => ?_)
          refine M.to (st2 := [vI ((b : Nat) : Int)]) ?_ rfl (by rw [hb]) rfl
          refine M_istore_n (pc := 46) C dX0_whereIs_46 (by decide) ?_
          refine M_aload_n (pc := 47) C dX0_whereIs_47 rfl (by decide) ?_
          refine M_iload_n (pc := 48) C dX0_whereIs_48 rfl ?_
          refine A_cV (pc := 49) C (x := vI (v 2 b)) (a := 1) (c := 0) (c_X0_kindOf_n hT (b := b) (by omega)) yw_X0_kindOf lk_X0_70 rfl (congrArg Prod.fst (tt_1 hT)) hc_0 rfl dX0_whereIs_49 rfl (Nat.le_of_ble_eq_true rfl) (by decide) ⟨Nat.le_refl _, Nat.le_refl _⟩ ?_
          refine M_rd (pc := 52) C 2 b (fun (r_49_0 : i32 (v 2 b)) => ?_)
          refine M_iconst (pc := 52) C dX0_whereIs_52 ?_
          refine M_icmp_ne (pc := 53) C (tgt := 60) (by omega) (by omega) dX0_whereIs_53 (by decide) (fun h_53 => ?_) (fun h_53 => ?_)
          · refine M_bipush (pc := 60) C (by decide) dX0_whereIs_60 ?_
            refine M_iload_n (pc := 62) C dX0_whereIs_62 rfl ?_
            refine M_imul (pc := 63) C dX0_whereIs_63 ?_
            refine M_aload_n (pc := 64) C dX0_whereIs_64 rfl (by decide) ?_
            refine A_getR (pc := 65) C fl_X0_27 rfl (a := 1) (j := 7) rfl (tt_1 hT) (by decide) dX0_whereIs_65 ?_
            refine M_iload_n (pc := 68) C dX0_whereIs_68 rfl ?_
            refine A_iald (pc := 69) C (a := 7) (q := f) rfl (tt_7 hT) (by decide) rfl (by omega) dX0_whereIs_69 (fun (r_69 : i32 (v 7 f)) => ?_)
            refine M_iadd (pc := 70) C dX0_whereIs_70 ?_
            refine M_iload_n (pc := 71) C dX0_whereIs_71 rfl ?_
            refine M_bipush (pc := 72) C (by decide) dX0_whereIs_72 ?_
            refine M_irem (pc := 74) C (by omega) (by decide) dX0_whereIs_74 ?_
            refine M_iadd (pc := 75) C dX0_whereIs_75 ?_
            exact M_iret (pc := 76) C rfl dX0_whereIs_76 (by rw [e1, hb, Int.toNat_natCast]; first | (rw [if_pos (by omega)]; done) | (rw [if_neg (by omega)]; rfl)) rfl
          · refine M_iconst (pc := 56) C dX0_whereIs_56 ?_
            refine M_goto (pc := 57) C (tgt := 76) dX0_whereIs_57 (by decide) ?_
            exact M_iret (pc := 76) C rfl dX0_whereIs_76 (by rw [e1, hb, Int.toNat_natCast]; first | (rw [if_pos (by omega)]; done) | (rw [if_neg (by omega)]; rfl)) rfl
      · exfalso
        omega
theorem c_X0_placeFor {N : Nat} {T : Ty} {x : Int} {v : Ct} (hT : TT T) (hD : DI (v 5) (v 6) (v 7) (v 8)) (hx : i32 x) : Runs mX0_placeFor 2 0 0 [vR 1, vI x] N T v (some (vI (plN (v 2) (v 5) (v 6) (v 7) (v 1 10) x))) N T v := by
  have hlb := lfN_bd (v 2)
  refine Runs.of (by decide) (Nat.le_of_ble_eq_true rfl) fun κ C => ?_
  refine M_iconst (pc := 0) C dX0_placeFor_0 ?_
  refine M_istore_n (pc := 1) C dX0_placeFor_1 (by decide) ?_
  refine M_bipush (pc := 2) C (by decide) dX0_placeFor_2 ?_
  refine M_istore_n (pc := 4) C dX0_placeFor_4 (by decide) ?_
  refine M_iconst (pc := 5) C dX0_placeFor_5 ?_
  refine M_istore (pc := 6) C dX0_placeFor_6 (by decide) ?_
  refine loop_le (P := fun i => (v 1 10 = 0 → (gfN (v 1 10) x (kpN (v 2) (v 5) (v 6) (v 7)) (16 * i)).1 = -1) → M κ N T 8 [some (vR 1), some (vI x), some (vI ((gfN (v 1 10) x (kpN (v 2) (v 5) (v 6) (v 7)) (16 * i)).1)), some (vI ((gfN (v 1 10) x (kpN (v 2) (v 5) (v 6) (v 7)) (16 * i)).2)), some (vI ((i : Nat) : Int)), none, none, none, none] [] v 0 0 (QR κ (some (vI (plN (v 2) (v 5) (v 6) (v 7) (v 1 10) x))) N T v 0 0)) 24 (fun i hi ih => ?_) (fun _ => rfl)
  intro hin
  have hb1 := gfN_bd (rule := v 1 10) (cells := x) (kpN_le (v 2) (v 5) (v 6) (v 7)) (16 * i)
  refine M_iload (pc := 8) C dX0_placeFor_8 rfl ?_
  refine M_bipush (pc := 10) C (by decide) dX0_placeFor_10 ?_
  refine M_icmp_ge (pc := 12) C (tgt := 137) (by omega) (by omega) dX0_placeFor_12 (by decide) (fun h_12 => ?_) (fun h_12 => ?_)
  · have hi24 : i = 24 := by omega
    refine M_iload_n (pc := 137) C dX0_placeFor_137 rfl ?_
    refine M_iconst (pc := 138) C dX0_placeFor_138 ?_
    refine M_icmp_ne (pc := 139) C (tgt := 149) (by omega) (by omega) dX0_placeFor_139 (by decide) (fun h_139 => ?_) (fun h_139 => ?_)
    · refine M_iconst (pc := 149) C dX0_placeFor_149 ?_
      refine M_istore (pc := 150) C dX0_placeFor_150 (by decide) ?_
      refine M_iload (pc := 152) C dX0_placeFor_152 rfl ?_
      refine M_iconst (pc := 154) C dX0_placeFor_154 ?_
      refine M_icmp_ne (pc := 155) C (tgt := 162) (by decide) (by decide) dX0_placeFor_155 (by decide) (fun h => absurd h (by decide)) (fun _ => ?_)
      refine M_iload_n (pc := 158) C dX0_placeFor_158 rfl ?_
      refine M_goto (pc := 159) C (tgt := 167) dX0_placeFor_159 (by decide) ?_
      exact M_iret (pc := 167) C rfl dX0_placeFor_167 (by unfold plN; rw [show (384 : Nat) = 16 * i by omega]; first | (rw [if_pos (by omega)]; done) | (rw [if_neg (by omega), if_pos (by omega), h_139]; done) | (rw [if_neg (by omega), if_neg (by omega)]; done)) rfl
    · refine M_aload_n (pc := 142) C dX0_placeFor_142 rfl (by decide) ?_
      refine A_cV (pc := 143) C (x := vI (lfN (v 2))) (a := 1) (c := 0) (c_X0_lowestFree hT) yw_X0_lowestFree lk_X0_94 rfl (congrArg Prod.fst (tt_1 hT)) hc_0 rfl dX0_placeFor_143 rfl (Nat.le_of_ble_eq_true rfl) (by decide) ⟨Nat.le_refl _, Nat.le_refl _⟩ ?_
      have hlf_143 := lfN_bd (v 2)
      refine M_goto (pc := 146) C (tgt := 150) dX0_placeFor_146 (by decide) ?_
      refine M_istore (pc := 150) C dX0_placeFor_150 (by decide) ?_
      refine M_iload (pc := 152) C dX0_placeFor_152 rfl ?_
      refine M_iconst (pc := 154) C dX0_placeFor_154 ?_
      refine M_icmp_ne (pc := 155) C (tgt := 162) (by omega) (by omega) dX0_placeFor_155 (by decide) (fun h_155 => ?_) (fun h_155 => ?_)
      · refine M_bipush (pc := 162) C (by decide) dX0_placeFor_162 ?_
        refine M_iload (pc := 164) C dX0_placeFor_164 rfl ?_
        refine M_imul (pc := 166) C dX0_placeFor_166 ?_
        exact M_iret (pc := 167) C rfl dX0_placeFor_167 (by unfold plN; rw [show (384 : Nat) = 16 * i by omega]; first | (rw [if_pos (by omega)]; done) | (rw [if_neg (by omega), if_pos (by omega), h_139]; done) | (rw [if_neg (by omega), if_neg (by omega)]; done)) rfl
      · refine M_iload_n (pc := 158) C dX0_placeFor_158 rfl ?_
        refine M_goto (pc := 159) C (tgt := 167) dX0_placeFor_159 (by decide) ?_
        exact M_iret (pc := 167) C rfl dX0_placeFor_167 (by unfold plN; rw [show (384 : Nat) = 16 * i by omega]; first | (rw [if_pos (by omega)]; done) | (rw [if_neg (by omega), if_pos (by omega), h_139]; done) | (rw [if_neg (by omega), if_neg (by omega)]; done)) rfl
  · refine M_aload_n (pc := 15) C dX0_placeFor_15 rfl (by decide) ?_
    refine A_getR (pc := 16) C fl_X0_9 rfl (a := 1) (j := 2) rfl (tt_1 hT) (by decide) dX0_placeFor_16 ?_
    refine M_iload (pc := 19) C dX0_placeFor_19 rfl ?_
    refine A_iald (pc := 21) C (a := 2) (q := i) rfl (tt_2 hT) (by decide) rfl (by omega) dX0_placeFor_21 (fun (r_21 : i32 (v 2 i)) => ?_)
    refine M_iconst (pc := 22) C dX0_placeFor_22 ?_
    refine M_icmp_ne (pc := 23) C (tgt := 36) (by omega) (by omega) dX0_placeFor_23 (by decide) (fun h_23 => ?_) (fun h_23 => ?_)
    · have hkt : ktN (v 2) (v 5) (v 6) (v 7) i = 65535 := if_neg h_23
      refine M_ldc (pc := 36) C lc_X0_90 (z := 65535) rfl dX0_placeFor_36 ?_
      refine M.to (st2 := [vI ((ktN (v 2) (v 5) (v 6) (v 7) i : Nat) : Int)]) ?_ rfl (by rw [hkt] <;> rfl) rfl
      have hib : ktN (v 2) (v 5) (v 6) (v 7) i < 65536 := by rw [hkt]; omega
      refine M_istore (pc := 38) C dX0_placeFor_38 (by decide) ?_
      refine M_iconst (pc := 40) C dX0_placeFor_40 ?_
      refine M_istore (pc := 41) C dX0_placeFor_41 (by decide) ?_
      refine loop_le (P := fun k => (v 1 10 = 0 → (gfN (v 1 10) x (kpN (v 2) (v 5) (v 6) (v 7)) (16 * i + k)).1 = -1) → M κ N T 43 [some (vR 1), some (vI x), some (vI ((gfN (v 1 10) x (kpN (v 2) (v 5) (v 6) (v 7)) (16 * i + k)).1)), some (vI ((gfN (v 1 10) x (kpN (v 2) (v 5) (v 6) (v 7)) (16 * i + k)).2)), some (vI ((i : Nat) : Int)), some (vI ((ktN (v 2) (v 5) (v 6) (v 7) i : Nat) : Int)), some (vI ((k : Nat) : Int)), none, none] [] v 0 0 (QR κ (some (vI (plN (v 2) (v 5) (v 6) (v 7) (v 1 10) x))) N T v 0 0)) 16 (fun k hk ihk => ?_) hin
      intro hin2
      have hb2 := gfN_bd (rule := v 1 10) (cells := x) (kpN_le (v 2) (v 5) (v 6) (v 7)) (16 * i + k)
      have hb3 := gfN_bd (rule := v 1 10) (cells := x) (kpN_le (v 2) (v 5) (v 6) (v 7)) (16 * i + k + 1)
      have hm1 := gfN_m1 (rule := v 1 10) (cells := x) (gap := kpN (v 2) (v 5) (v 6) (v 7)) (16 * i + k)
      have hkl := kpN_le (v 2) (v 5) (v 6) (v 7) (16 * i + k)
      refine M_iload (pc := 43) C dX0_placeFor_43 rfl ?_
      refine M_bipush (pc := 45) C (by decide) dX0_placeFor_45 ?_
      refine M_icmp_ge (pc := 47) C (tgt := 131) (by omega) (by omega) dX0_placeFor_47 (by decide) (fun h_47 => ?_) (fun h_47 => ?_)
      · refine M_iinc (pc := 131) C dX0_placeFor_131 rfl (by decide) ?_
        refine M_goto (pc := 134) C (tgt := 8) dX0_placeFor_134 (by decide) ?_
        refine M.drop [true, true, true, true, true, false, false, true, true] rfl ?_
        have hk16 : k = 16 := by omega
        subst hk16
        exact M.to (ih (by omega) (by rw [show 16 * (i + 1) = 16 * i + 16 by omega]; exact hin2)) (by rw [show 16 * (i + 1) = 16 * i + 16 by omega]; rfl) rfl rfl
      · refine M_iload (pc := 50) C dX0_placeFor_50 rfl ?_
        refine M_if_eq (pc := 52) C (tgt := 67) (by omega) dX0_placeFor_52 (by decide) (fun h_52 => ?_) (fun h_52 => ?_)
        · refine M_iconst (pc := 67) C dX0_placeFor_67 ?_
          refine M_goto (pc := 68) C (tgt := 72) dX0_placeFor_68 (by decide) ?_
          refine M_istore (pc := 72) C dX0_placeFor_72 (by decide) ?_
          refine M_iload (pc := 74) C dX0_placeFor_74 rfl ?_
          refine M_if_eq (pc := 76) C (tgt := 89) (by decide) dX0_placeFor_76 (by decide) (fun h => absurd h (by decide)) (fun _ => ?_)
          refine M_iload (pc := 79) C dX0_placeFor_79 rfl ?_
          refine M_iload (pc := 81) C dX0_placeFor_81 rfl ?_
          refine A_cS (pc := 83) C (x := vI ((gapL ((ktN (v 2) (v 5) (v 6) (v 7) i : Nat) : Int) k : Nat) : Int)) (c_X0_gapFrom hT (t := ((ktN (v 2) (v 5) (v 6) (v 7) i : Nat) : Int)) (c := k) (by omega) (by omega)) yw_X0_gapFrom lk_X0_91 rfl dX0_placeFor_83 rfl (Nat.le_of_ble_eq_true rfl) (by decide) ⟨Nat.le_refl _, Nat.le_refl _⟩ ?_
          have hgl_83 := gapLen_le (btB ((ktN (v 2) (v 5) (v 6) (v 7) i : Nat) : Int)) (16 - k) k
          refine M_goto (pc := 86) C (tgt := 90) dX0_placeFor_86 (by decide) ?_
          refine M.to (st2 := [vI ((kpN (v 2) (v 5) (v 6) (v 7) (16 * i + k) : Nat) : Int)]) ?_ rfl (by unfold kpN; rw [show (16 * i + k) / 16 = i by omega, show (16 * i + k) % 16 = k by omega]; first | (rw [if_pos (Or.inl (by omega))]; done) | (rw [if_pos (Or.inr b_76)]; done) | (rw [if_neg (fun q => Or.elim q (fun q => by omega) (fun q => by rw [b_76] at q; exact absurd q (by decide)))]; rfl)) rfl
          refine M_istore (pc := 90) C dX0_placeFor_90 (by decide) ?_
          refine M_iload (pc := 92) C dX0_placeFor_92 rfl ?_
          refine M_iload_n (pc := 94) C dX0_placeFor_94 rfl ?_
          refine M_icmp_lt (pc := 95) C (tgt := 125) (by omega) (by omega) dX0_placeFor_95 (by decide) (fun h_95 => ?_) (fun h_95 => ?_)
          · have hE : gfN (v 1 10) x (kpN (v 2) (v 5) (v 6) (v 7)) (16 * i + k + 1) = gfN (v 1 10) x (kpN (v 2) (v 5) (v 6) (v 7)) (16 * i + k) := gfN_f (fun q => by have := q.1; omega)
            have hin3 : v 1 10 = 0 → (gfN (v 1 10) x (kpN (v 2) (v 5) (v 6) (v 7)) (16 * i + (k + 1))).1 = -1 := by rw [show 16 * i + (k + 1) = 16 * i + k + 1 by omega, hE]; exact hin2
            refine M_iinc (pc := 125) C dX0_placeFor_125 rfl (by decide) ?_
            refine M_goto (pc := 128) C (tgt := 43) dX0_placeFor_128 (by decide) ?_
            refine M.drop [true, true, true, true, true, true, true, false, false] rfl ?_
            exact M.to (ihk (by omega) hin3) (by rw [show 16 * i + (k + 1) = 16 * i + k + 1 by omega, hE]; rfl) rfl rfl
          · refine M_iload (pc := 98) C dX0_placeFor_98 rfl ?_
            refine M_iload_n (pc := 100) C dX0_placeFor_100 rfl ?_
            refine M_icmp_ge (pc := 101) C (tgt := 125) (by omega) (by omega) dX0_placeFor_101 (by decide) (fun h_101 => ?_) (fun h_101 => ?_)
            · have hE : gfN (v 1 10) x (kpN (v 2) (v 5) (v 6) (v 7)) (16 * i + k + 1) = gfN (v 1 10) x (kpN (v 2) (v 5) (v 6) (v 7)) (16 * i + k) := gfN_f (fun q => by have q2 := q.2; by_cases hr : v 1 10 = 0; (rw [if_pos hr] at q2; have := hm1 q2; omega); (rw [if_neg hr] at q2; omega))
              have hin3 : v 1 10 = 0 → (gfN (v 1 10) x (kpN (v 2) (v 5) (v 6) (v 7)) (16 * i + (k + 1))).1 = -1 := by rw [show 16 * i + (k + 1) = 16 * i + k + 1 by omega, hE]; exact hin2
              refine M_iinc (pc := 125) C dX0_placeFor_125 rfl (by decide) ?_
              refine M_goto (pc := 128) C (tgt := 43) dX0_placeFor_128 (by decide) ?_
              refine M.drop [true, true, true, true, true, true, true, false, false] rfl ?_
              exact M.to (ihk (by omega) hin3) (by rw [show 16 * i + (k + 1) = 16 * i + k + 1 by omega, hE]; rfl) rfl rfl
            · have hE : gfN (v 1 10) x (kpN (v 2) (v 5) (v 6) (v 7)) (16 * i + k + 1) = (((16 * i + k : Nat) : Int), ((kpN (v 2) (v 5) (v 6) (v 7) (16 * i + k) : Nat) : Int)) := gfN_t ⟨by omega, by by_cases hr : v 1 10 = 0; (rw [if_pos hr]; exact hin2 hr); (rw [if_neg hr]; omega)⟩
              refine M_bipush (pc := 104) C (by decide) dX0_placeFor_104 ?_
              refine M_iload (pc := 106) C dX0_placeFor_106 rfl ?_
              refine M_imul (pc := 108) C dX0_placeFor_108 ?_
              refine M_iload (pc := 109) C dX0_placeFor_109 rfl ?_
              refine M_iadd (pc := 111) C dX0_placeFor_111 ?_
              refine M_istore_n (pc := 112) C dX0_placeFor_112 (by decide) ?_
              refine M_iload (pc := 113) C dX0_placeFor_113 rfl ?_
              refine M_istore_n (pc := 115) C dX0_placeFor_115 (by decide) ?_
              refine M_aload_n (pc := 116) C dX0_placeFor_116 rfl (by decide) ?_
              refine A_getI (pc := 117) C fl_X0_43 rfl (a := 1) rfl (tt_1 hT) dX0_placeFor_117 (fun (r_117 : i32 (v 1 10)) => ?_)
              refine M_if_ne (pc := 120) C (tgt := 125) (by omega) dX0_placeFor_120 (by decide) (fun h_120 => ?_) (fun h_120 => ?_)
              · have hin3 : v 1 10 = 0 → (gfN (v 1 10) x (kpN (v 2) (v 5) (v 6) (v 7)) (16 * i + (k + 1))).1 = -1 := fun h => absurd h h_120
                refine M_iinc (pc := 125) C dX0_placeFor_125 rfl (by decide) ?_
                refine M_goto (pc := 128) C (tgt := 43) dX0_placeFor_128 (by decide) ?_
                refine M.drop [true, true, true, true, true, true, true, false, false] rfl ?_
                exact M.to (ihk (by omega) hin3) (by rw [show 16 * i + (k + 1) = 16 * i + k + 1 by omega, hE]; rfl) rfl rfl
              · have hst : (gfN (v 1 10) x (kpN (v 2) (v 5) (v 6) (v 7)) (384)).1 = ((16 * i + k : Nat) : Int) := by have h9 := gfN_stay (cells := x) (gap := kpN (v 2) (v 5) (v 6) (v 7)) (n := 16 * i + k + 1) (by rw [h_120] at hE; rw [hE]; show ((16 * i + k : Nat) : Int) ≠ -1; omega) (384 - (16 * i + k + 1)); rw [show 16 * i + k + 1 + (384 - (16 * i + k + 1)) = 384 by omega] at h9; rw [h_120] at hE ⊢; rw [h9, hE]
                refine M_iload_n (pc := 123) C dX0_placeFor_123 rfl ?_
                exact M_iret (pc := 124) C rfl dX0_placeFor_124 (by unfold plN; rw [if_pos (by rw [hst]; omega), hst]; rfl) rfl
        · refine M_iload (pc := 55) C dX0_placeFor_55 rfl ?_
          refine M_iload (pc := 57) C dX0_placeFor_57 rfl ?_
          refine M_iconst (pc := 59) C dX0_placeFor_59 ?_
          refine M_isub (pc := 60) C dX0_placeFor_60 ?_
          refine M.to (st2 := [vI ((k - 1 : Nat) : Int), vI ((ktN (v 2) (v 5) (v 6) (v 7) i : Nat) : Int)]) ?_ rfl (by rw [show ((k : Nat) : Int) - 1 = ((k - 1 : Nat) : Int) by omega]) rfl
          refine A_cS (pc := 61) C (x := vI (Bi (btB ((ktN (v 2) (v 5) (v 6) (v 7) i : Nat) : Int) (k - 1)))) (c_X0_isTaken hT (t := ((ktN (v 2) (v 5) (v 6) (v 7) i : Nat) : Int)) (c := k - 1) (by omega) (by omega)) yw_X0_isTaken lk_X0_82 rfl dX0_placeFor_61 rfl (Nat.le_of_ble_eq_true rfl) (by decide) ⟨Nat.le_refl _, Nat.le_refl _⟩ ?_
          refine T_eq (pc := 64) C dX0_placeFor_64 dX0_placeFor_67 dX0_placeFor_68 dX0_placeFor_71 ?_
          refine M_istore (pc := 72) C dX0_placeFor_72 (by decide) ?_
          refine M_iload (pc := 74) C dX0_placeFor_74 rfl ?_
          refine M_if_eq (pc := 76) C (tgt := 89) (Bi_i32 _) dX0_placeFor_76 (by decide) (fun h_76 => ?_) (fun h_76 => ?_)
          · have b_76 := Bi_eq0 h_76
            refine M_iconst (pc := 89) C dX0_placeFor_89 ?_
            refine M.to (st2 := [vI ((kpN (v 2) (v 5) (v 6) (v 7) (16 * i + k) : Nat) : Int)]) ?_ rfl (by unfold kpN; rw [show (16 * i + k) / 16 = i by omega, show (16 * i + k) % 16 = k by omega]; first | (rw [if_pos (Or.inl (by omega))]; done) | (rw [if_pos (Or.inr b_76)]; done) | (rw [if_neg (fun q => Or.elim q (fun q => by omega) (fun q => by rw [b_76] at q; exact absurd q (by decide)))]; rfl)) rfl
            refine M_istore (pc := 90) C dX0_placeFor_90 (by decide) ?_
            refine M_iload (pc := 92) C dX0_placeFor_92 rfl ?_
            refine M_iload_n (pc := 94) C dX0_placeFor_94 rfl ?_
            refine M_icmp_lt (pc := 95) C (tgt := 125) (by omega) (by omega) dX0_placeFor_95 (by decide) (fun h_95 => ?_) (fun h_95 => ?_)
            · have hE : gfN (v 1 10) x (kpN (v 2) (v 5) (v 6) (v 7)) (16 * i + k + 1) = gfN (v 1 10) x (kpN (v 2) (v 5) (v 6) (v 7)) (16 * i + k) := gfN_f (fun q => by have := q.1; omega)
              have hin3 : v 1 10 = 0 → (gfN (v 1 10) x (kpN (v 2) (v 5) (v 6) (v 7)) (16 * i + (k + 1))).1 = -1 := by rw [show 16 * i + (k + 1) = 16 * i + k + 1 by omega, hE]; exact hin2
              refine M_iinc (pc := 125) C dX0_placeFor_125 rfl (by decide) ?_
              refine M_goto (pc := 128) C (tgt := 43) dX0_placeFor_128 (by decide) ?_
              refine M.drop [true, true, true, true, true, true, true, false, false] rfl ?_
              exact M.to (ihk (by omega) hin3) (by rw [show 16 * i + (k + 1) = 16 * i + k + 1 by omega, hE]; rfl) rfl rfl
            · refine M_iload (pc := 98) C dX0_placeFor_98 rfl ?_
              refine M_iload_n (pc := 100) C dX0_placeFor_100 rfl ?_
              refine M_icmp_ge (pc := 101) C (tgt := 125) (by omega) (by omega) dX0_placeFor_101 (by decide) (fun h_101 => ?_) (fun h_101 => ?_)
              · have hE : gfN (v 1 10) x (kpN (v 2) (v 5) (v 6) (v 7)) (16 * i + k + 1) = gfN (v 1 10) x (kpN (v 2) (v 5) (v 6) (v 7)) (16 * i + k) := gfN_f (fun q => by have q2 := q.2; by_cases hr : v 1 10 = 0; (rw [if_pos hr] at q2; have := hm1 q2; omega); (rw [if_neg hr] at q2; omega))
                have hin3 : v 1 10 = 0 → (gfN (v 1 10) x (kpN (v 2) (v 5) (v 6) (v 7)) (16 * i + (k + 1))).1 = -1 := by rw [show 16 * i + (k + 1) = 16 * i + k + 1 by omega, hE]; exact hin2
                refine M_iinc (pc := 125) C dX0_placeFor_125 rfl (by decide) ?_
                refine M_goto (pc := 128) C (tgt := 43) dX0_placeFor_128 (by decide) ?_
                refine M.drop [true, true, true, true, true, true, true, false, false] rfl ?_
                exact M.to (ihk (by omega) hin3) (by rw [show 16 * i + (k + 1) = 16 * i + k + 1 by omega, hE]; rfl) rfl rfl
              · have hE : gfN (v 1 10) x (kpN (v 2) (v 5) (v 6) (v 7)) (16 * i + k + 1) = (((16 * i + k : Nat) : Int), ((kpN (v 2) (v 5) (v 6) (v 7) (16 * i + k) : Nat) : Int)) := gfN_t ⟨by omega, by by_cases hr : v 1 10 = 0; (rw [if_pos hr]; exact hin2 hr); (rw [if_neg hr]; omega)⟩
                refine M_bipush (pc := 104) C (by decide) dX0_placeFor_104 ?_
                refine M_iload (pc := 106) C dX0_placeFor_106 rfl ?_
                refine M_imul (pc := 108) C dX0_placeFor_108 ?_
                refine M_iload (pc := 109) C dX0_placeFor_109 rfl ?_
                refine M_iadd (pc := 111) C dX0_placeFor_111 ?_
                refine M_istore_n (pc := 112) C dX0_placeFor_112 (by decide) ?_
                refine M_iload (pc := 113) C dX0_placeFor_113 rfl ?_
                refine M_istore_n (pc := 115) C dX0_placeFor_115 (by decide) ?_
                refine M_aload_n (pc := 116) C dX0_placeFor_116 rfl (by decide) ?_
                refine A_getI (pc := 117) C fl_X0_43 rfl (a := 1) rfl (tt_1 hT) dX0_placeFor_117 (fun (r_117 : i32 (v 1 10)) => ?_)
                refine M_if_ne (pc := 120) C (tgt := 125) (by omega) dX0_placeFor_120 (by decide) (fun h_120 => ?_) (fun h_120 => ?_)
                · have hin3 : v 1 10 = 0 → (gfN (v 1 10) x (kpN (v 2) (v 5) (v 6) (v 7)) (16 * i + (k + 1))).1 = -1 := fun h => absurd h h_120
                  refine M_iinc (pc := 125) C dX0_placeFor_125 rfl (by decide) ?_
                  refine M_goto (pc := 128) C (tgt := 43) dX0_placeFor_128 (by decide) ?_
                  refine M.drop [true, true, true, true, true, true, true, false, false] rfl ?_
                  exact M.to (ihk (by omega) hin3) (by rw [show 16 * i + (k + 1) = 16 * i + k + 1 by omega, hE]; rfl) rfl rfl
                · have hst : (gfN (v 1 10) x (kpN (v 2) (v 5) (v 6) (v 7)) (384)).1 = ((16 * i + k : Nat) : Int) := by have h9 := gfN_stay (cells := x) (gap := kpN (v 2) (v 5) (v 6) (v 7)) (n := 16 * i + k + 1) (by rw [h_120] at hE; rw [hE]; show ((16 * i + k : Nat) : Int) ≠ -1; omega) (384 - (16 * i + k + 1)); rw [show 16 * i + k + 1 + (384 - (16 * i + k + 1)) = 384 by omega] at h9; rw [h_120] at hE ⊢; rw [h9, hE]
                  refine M_iload_n (pc := 123) C dX0_placeFor_123 rfl ?_
                  exact M_iret (pc := 124) C rfl dX0_placeFor_124 (by unfold plN; rw [if_pos (by rw [hst]; omega), hst]; rfl) rfl
          · have b_76 := Bi_ne0 h_76
            refine M_iload (pc := 79) C dX0_placeFor_79 rfl ?_
            refine M_iload (pc := 81) C dX0_placeFor_81 rfl ?_
            refine A_cS (pc := 83) C (x := vI ((gapL ((ktN (v 2) (v 5) (v 6) (v 7) i : Nat) : Int) k : Nat) : Int)) (c_X0_gapFrom hT (t := ((ktN (v 2) (v 5) (v 6) (v 7) i : Nat) : Int)) (c := k) (by omega) (by omega)) yw_X0_gapFrom lk_X0_91 rfl dX0_placeFor_83 rfl (Nat.le_of_ble_eq_true rfl) (by decide) ⟨Nat.le_refl _, Nat.le_refl _⟩ ?_
            have hgl_83 := gapLen_le (btB ((ktN (v 2) (v 5) (v 6) (v 7) i : Nat) : Int)) (16 - k) k
            refine M_goto (pc := 86) C (tgt := 90) dX0_placeFor_86 (by decide) ?_
            refine M.to (st2 := [vI ((kpN (v 2) (v 5) (v 6) (v 7) (16 * i + k) : Nat) : Int)]) ?_ rfl (by unfold kpN; rw [show (16 * i + k) / 16 = i by omega, show (16 * i + k) % 16 = k by omega]; first | (rw [if_pos (Or.inl (by omega))]; done) | (rw [if_pos (Or.inr b_76)]; done) | (rw [if_neg (fun q => Or.elim q (fun q => by omega) (fun q => by rw [b_76] at q; exact absurd q (by decide)))]; rfl)) rfl
            refine M_istore (pc := 90) C dX0_placeFor_90 (by decide) ?_
            refine M_iload (pc := 92) C dX0_placeFor_92 rfl ?_
            refine M_iload_n (pc := 94) C dX0_placeFor_94 rfl ?_
            refine M_icmp_lt (pc := 95) C (tgt := 125) (by omega) (by omega) dX0_placeFor_95 (by decide) (fun h_95 => ?_) (fun h_95 => ?_)
            · have hE : gfN (v 1 10) x (kpN (v 2) (v 5) (v 6) (v 7)) (16 * i + k + 1) = gfN (v 1 10) x (kpN (v 2) (v 5) (v 6) (v 7)) (16 * i + k) := gfN_f (fun q => by have := q.1; omega)
              have hin3 : v 1 10 = 0 → (gfN (v 1 10) x (kpN (v 2) (v 5) (v 6) (v 7)) (16 * i + (k + 1))).1 = -1 := by rw [show 16 * i + (k + 1) = 16 * i + k + 1 by omega, hE]; exact hin2
              refine M_iinc (pc := 125) C dX0_placeFor_125 rfl (by decide) ?_
              refine M_goto (pc := 128) C (tgt := 43) dX0_placeFor_128 (by decide) ?_
              refine M.drop [true, true, true, true, true, true, true, false, false] rfl ?_
              exact M.to (ihk (by omega) hin3) (by rw [show 16 * i + (k + 1) = 16 * i + k + 1 by omega, hE]; rfl) rfl rfl
            · refine M_iload (pc := 98) C dX0_placeFor_98 rfl ?_
              refine M_iload_n (pc := 100) C dX0_placeFor_100 rfl ?_
              refine M_icmp_ge (pc := 101) C (tgt := 125) (by omega) (by omega) dX0_placeFor_101 (by decide) (fun h_101 => ?_) (fun h_101 => ?_)
              · have hE : gfN (v 1 10) x (kpN (v 2) (v 5) (v 6) (v 7)) (16 * i + k + 1) = gfN (v 1 10) x (kpN (v 2) (v 5) (v 6) (v 7)) (16 * i + k) := gfN_f (fun q => by have q2 := q.2; by_cases hr : v 1 10 = 0; (rw [if_pos hr] at q2; have := hm1 q2; omega); (rw [if_neg hr] at q2; omega))
                have hin3 : v 1 10 = 0 → (gfN (v 1 10) x (kpN (v 2) (v 5) (v 6) (v 7)) (16 * i + (k + 1))).1 = -1 := by rw [show 16 * i + (k + 1) = 16 * i + k + 1 by omega, hE]; exact hin2
                refine M_iinc (pc := 125) C dX0_placeFor_125 rfl (by decide) ?_
                refine M_goto (pc := 128) C (tgt := 43) dX0_placeFor_128 (by decide) ?_
                refine M.drop [true, true, true, true, true, true, true, false, false] rfl ?_
                exact M.to (ihk (by omega) hin3) (by rw [show 16 * i + (k + 1) = 16 * i + k + 1 by omega, hE]; rfl) rfl rfl
              · have hE : gfN (v 1 10) x (kpN (v 2) (v 5) (v 6) (v 7)) (16 * i + k + 1) = (((16 * i + k : Nat) : Int), ((kpN (v 2) (v 5) (v 6) (v 7) (16 * i + k) : Nat) : Int)) := gfN_t ⟨by omega, by by_cases hr : v 1 10 = 0; (rw [if_pos hr]; exact hin2 hr); (rw [if_neg hr]; omega)⟩
                refine M_bipush (pc := 104) C (by decide) dX0_placeFor_104 ?_
                refine M_iload (pc := 106) C dX0_placeFor_106 rfl ?_
                refine M_imul (pc := 108) C dX0_placeFor_108 ?_
                refine M_iload (pc := 109) C dX0_placeFor_109 rfl ?_
                refine M_iadd (pc := 111) C dX0_placeFor_111 ?_
                refine M_istore_n (pc := 112) C dX0_placeFor_112 (by decide) ?_
                refine M_iload (pc := 113) C dX0_placeFor_113 rfl ?_
                refine M_istore_n (pc := 115) C dX0_placeFor_115 (by decide) ?_
                refine M_aload_n (pc := 116) C dX0_placeFor_116 rfl (by decide) ?_
                refine A_getI (pc := 117) C fl_X0_43 rfl (a := 1) rfl (tt_1 hT) dX0_placeFor_117 (fun (r_117 : i32 (v 1 10)) => ?_)
                refine M_if_ne (pc := 120) C (tgt := 125) (by omega) dX0_placeFor_120 (by decide) (fun h_120 => ?_) (fun h_120 => ?_)
                · have hin3 : v 1 10 = 0 → (gfN (v 1 10) x (kpN (v 2) (v 5) (v 6) (v 7)) (16 * i + (k + 1))).1 = -1 := fun h => absurd h h_120
                  refine M_iinc (pc := 125) C dX0_placeFor_125 rfl (by decide) ?_
                  refine M_goto (pc := 128) C (tgt := 43) dX0_placeFor_128 (by decide) ?_
                  refine M.drop [true, true, true, true, true, true, true, false, false] rfl ?_
                  exact M.to (ihk (by omega) hin3) (by rw [show 16 * i + (k + 1) = 16 * i + k + 1 by omega, hE]; rfl) rfl rfl
                · have hst : (gfN (v 1 10) x (kpN (v 2) (v 5) (v 6) (v 7)) (384)).1 = ((16 * i + k : Nat) : Int) := by have h9 := gfN_stay (cells := x) (gap := kpN (v 2) (v 5) (v 6) (v 7)) (n := 16 * i + k + 1) (by rw [h_120] at hE; rw [hE]; show ((16 * i + k : Nat) : Int) ≠ -1; omega) (384 - (16 * i + k + 1)); rw [show 16 * i + k + 1 + (384 - (16 * i + k + 1)) = 384 by omega] at h9; rw [h_120] at hE ⊢; rw [h9, hE]
                  refine M_iload_n (pc := 123) C dX0_placeFor_123 rfl ?_
                  exact M_iret (pc := 124) C rfl dX0_placeFor_124 (by unfold plN; rw [if_pos (by rw [hst]; omega), hst]; rfl) rfl
    · have hkt : ktN (v 2) (v 5) (v 6) (v 7) i = tkA (v 5) (v 6) (v 7) ((i : Nat) : Int) (-1) := if_pos h_23
      refine M_aload_n (pc := 26) C dX0_placeFor_26 rfl (by decide) ?_
      refine M_iload (pc := 27) C dX0_placeFor_27 rfl ?_
      refine M_iconst (pc := 29) C dX0_placeFor_29 ?_
      refine A_cV (pc := 30) C (x := vI ((tkA (v 5) (v 6) (v 7) ((i : Nat) : Int) (-1) : Nat) : Int)) (a := 1) (c := 0) (c_X0_takenCells hT hD (b := ((i : Nat) : Int)) (lo := -1) (by omega) (by omega) (by omega)) yw_X0_takenCells lk_X0_63 rfl (congrArg Prod.fst (tt_1 hT)) hc_0 rfl dX0_placeFor_30 rfl (Nat.le_of_ble_eq_true rfl) (by decide) ⟨Nat.le_refl _, Nat.le_refl _⟩ ?_
      have htk_30 := tkA_bd (b := ((i : Nat) : Int)) (lo := -1) hD (by omega)
      refine M_goto (pc := 33) C (tgt := 38) dX0_placeFor_33 (by decide) ?_
      refine M.to (st2 := [vI ((ktN (v 2) (v 5) (v 6) (v 7) i : Nat) : Int)]) ?_ rfl (by rw [hkt] <;> rfl) rfl
      have hib : ktN (v 2) (v 5) (v 6) (v 7) i < 65536 := by rw [hkt]; omega
      refine M_istore (pc := 38) C dX0_placeFor_38 (by decide) ?_
      refine M_iconst (pc := 40) C dX0_placeFor_40 ?_
      refine M_istore (pc := 41) C dX0_placeFor_41 (by decide) ?_
      refine loop_le (P := fun k => (v 1 10 = 0 → (gfN (v 1 10) x (kpN (v 2) (v 5) (v 6) (v 7)) (16 * i + k)).1 = -1) → M κ N T 43 [some (vR 1), some (vI x), some (vI ((gfN (v 1 10) x (kpN (v 2) (v 5) (v 6) (v 7)) (16 * i + k)).1)), some (vI ((gfN (v 1 10) x (kpN (v 2) (v 5) (v 6) (v 7)) (16 * i + k)).2)), some (vI ((i : Nat) : Int)), some (vI ((ktN (v 2) (v 5) (v 6) (v 7) i : Nat) : Int)), some (vI ((k : Nat) : Int)), none, none] [] v 0 0 (QR κ (some (vI (plN (v 2) (v 5) (v 6) (v 7) (v 1 10) x))) N T v 0 0)) 16 (fun k hk ihk => ?_) hin
      intro hin2
      have hb2 := gfN_bd (rule := v 1 10) (cells := x) (kpN_le (v 2) (v 5) (v 6) (v 7)) (16 * i + k)
      have hb3 := gfN_bd (rule := v 1 10) (cells := x) (kpN_le (v 2) (v 5) (v 6) (v 7)) (16 * i + k + 1)
      have hm1 := gfN_m1 (rule := v 1 10) (cells := x) (gap := kpN (v 2) (v 5) (v 6) (v 7)) (16 * i + k)
      have hkl := kpN_le (v 2) (v 5) (v 6) (v 7) (16 * i + k)
      refine M_iload (pc := 43) C dX0_placeFor_43 rfl ?_
      refine M_bipush (pc := 45) C (by decide) dX0_placeFor_45 ?_
      refine M_icmp_ge (pc := 47) C (tgt := 131) (by omega) (by omega) dX0_placeFor_47 (by decide) (fun h_47 => ?_) (fun h_47 => ?_)
      · refine M_iinc (pc := 131) C dX0_placeFor_131 rfl (by decide) ?_
        refine M_goto (pc := 134) C (tgt := 8) dX0_placeFor_134 (by decide) ?_
        refine M.drop [true, true, true, true, true, false, false, true, true] rfl ?_
        have hk16 : k = 16 := by omega
        subst hk16
        exact M.to (ih (by omega) (by rw [show 16 * (i + 1) = 16 * i + 16 by omega]; exact hin2)) (by rw [show 16 * (i + 1) = 16 * i + 16 by omega]; rfl) rfl rfl
      · refine M_iload (pc := 50) C dX0_placeFor_50 rfl ?_
        refine M_if_eq (pc := 52) C (tgt := 67) (by omega) dX0_placeFor_52 (by decide) (fun h_52 => ?_) (fun h_52 => ?_)
        · refine M_iconst (pc := 67) C dX0_placeFor_67 ?_
          refine M_goto (pc := 68) C (tgt := 72) dX0_placeFor_68 (by decide) ?_
          refine M_istore (pc := 72) C dX0_placeFor_72 (by decide) ?_
          refine M_iload (pc := 74) C dX0_placeFor_74 rfl ?_
          refine M_if_eq (pc := 76) C (tgt := 89) (by decide) dX0_placeFor_76 (by decide) (fun h => absurd h (by decide)) (fun _ => ?_)
          refine M_iload (pc := 79) C dX0_placeFor_79 rfl ?_
          refine M_iload (pc := 81) C dX0_placeFor_81 rfl ?_
          refine A_cS (pc := 83) C (x := vI ((gapL ((ktN (v 2) (v 5) (v 6) (v 7) i : Nat) : Int) k : Nat) : Int)) (c_X0_gapFrom hT (t := ((ktN (v 2) (v 5) (v 6) (v 7) i : Nat) : Int)) (c := k) (by omega) (by omega)) yw_X0_gapFrom lk_X0_91 rfl dX0_placeFor_83 rfl (Nat.le_of_ble_eq_true rfl) (by decide) ⟨Nat.le_refl _, Nat.le_refl _⟩ ?_
          have hgl_83 := gapLen_le (btB ((ktN (v 2) (v 5) (v 6) (v 7) i : Nat) : Int)) (16 - k) k
          refine M_goto (pc := 86) C (tgt := 90) dX0_placeFor_86 (by decide) ?_
          refine M.to (st2 := [vI ((kpN (v 2) (v 5) (v 6) (v 7) (16 * i + k) : Nat) : Int)]) ?_ rfl (by unfold kpN; rw [show (16 * i + k) / 16 = i by omega, show (16 * i + k) % 16 = k by omega]; first | (rw [if_pos (Or.inl (by omega))]; done) | (rw [if_pos (Or.inr b_76)]; done) | (rw [if_neg (fun q => Or.elim q (fun q => by omega) (fun q => by rw [b_76] at q; exact absurd q (by decide)))]; rfl)) rfl
          refine M_istore (pc := 90) C dX0_placeFor_90 (by decide) ?_
          refine M_iload (pc := 92) C dX0_placeFor_92 rfl ?_
          refine M_iload_n (pc := 94) C dX0_placeFor_94 rfl ?_
          refine M_icmp_lt (pc := 95) C (tgt := 125) (by omega) (by omega) dX0_placeFor_95 (by decide) (fun h_95 => ?_) (fun h_95 => ?_)
          · have hE : gfN (v 1 10) x (kpN (v 2) (v 5) (v 6) (v 7)) (16 * i + k + 1) = gfN (v 1 10) x (kpN (v 2) (v 5) (v 6) (v 7)) (16 * i + k) := gfN_f (fun q => by have := q.1; omega)
            have hin3 : v 1 10 = 0 → (gfN (v 1 10) x (kpN (v 2) (v 5) (v 6) (v 7)) (16 * i + (k + 1))).1 = -1 := by rw [show 16 * i + (k + 1) = 16 * i + k + 1 by omega, hE]; exact hin2
            refine M_iinc (pc := 125) C dX0_placeFor_125 rfl (by decide) ?_
            refine M_goto (pc := 128) C (tgt := 43) dX0_placeFor_128 (by decide) ?_
            refine M.drop [true, true, true, true, true, true, true, false, false] rfl ?_
            exact M.to (ihk (by omega) hin3) (by rw [show 16 * i + (k + 1) = 16 * i + k + 1 by omega, hE]; rfl) rfl rfl
          · refine M_iload (pc := 98) C dX0_placeFor_98 rfl ?_
            refine M_iload_n (pc := 100) C dX0_placeFor_100 rfl ?_
            refine M_icmp_ge (pc := 101) C (tgt := 125) (by omega) (by omega) dX0_placeFor_101 (by decide) (fun h_101 => ?_) (fun h_101 => ?_)
            · have hE : gfN (v 1 10) x (kpN (v 2) (v 5) (v 6) (v 7)) (16 * i + k + 1) = gfN (v 1 10) x (kpN (v 2) (v 5) (v 6) (v 7)) (16 * i + k) := gfN_f (fun q => by have q2 := q.2; by_cases hr : v 1 10 = 0; (rw [if_pos hr] at q2; have := hm1 q2; omega); (rw [if_neg hr] at q2; omega))
              have hin3 : v 1 10 = 0 → (gfN (v 1 10) x (kpN (v 2) (v 5) (v 6) (v 7)) (16 * i + (k + 1))).1 = -1 := by rw [show 16 * i + (k + 1) = 16 * i + k + 1 by omega, hE]; exact hin2
              refine M_iinc (pc := 125) C dX0_placeFor_125 rfl (by decide) ?_
              refine M_goto (pc := 128) C (tgt := 43) dX0_placeFor_128 (by decide) ?_
              refine M.drop [true, true, true, true, true, true, true, false, false] rfl ?_
              exact M.to (ihk (by omega) hin3) (by rw [show 16 * i + (k + 1) = 16 * i + k + 1 by omega, hE]; rfl) rfl rfl
            · have hE : gfN (v 1 10) x (kpN (v 2) (v 5) (v 6) (v 7)) (16 * i + k + 1) = (((16 * i + k : Nat) : Int), ((kpN (v 2) (v 5) (v 6) (v 7) (16 * i + k) : Nat) : Int)) := gfN_t ⟨by omega, by by_cases hr : v 1 10 = 0; (rw [if_pos hr]; exact hin2 hr); (rw [if_neg hr]; omega)⟩
              refine M_bipush (pc := 104) C (by decide) dX0_placeFor_104 ?_
              refine M_iload (pc := 106) C dX0_placeFor_106 rfl ?_
              refine M_imul (pc := 108) C dX0_placeFor_108 ?_
              refine M_iload (pc := 109) C dX0_placeFor_109 rfl ?_
              refine M_iadd (pc := 111) C dX0_placeFor_111 ?_
              refine M_istore_n (pc := 112) C dX0_placeFor_112 (by decide) ?_
              refine M_iload (pc := 113) C dX0_placeFor_113 rfl ?_
              refine M_istore_n (pc := 115) C dX0_placeFor_115 (by decide) ?_
              refine M_aload_n (pc := 116) C dX0_placeFor_116 rfl (by decide) ?_
              refine A_getI (pc := 117) C fl_X0_43 rfl (a := 1) rfl (tt_1 hT) dX0_placeFor_117 (fun (r_117 : i32 (v 1 10)) => ?_)
              refine M_if_ne (pc := 120) C (tgt := 125) (by omega) dX0_placeFor_120 (by decide) (fun h_120 => ?_) (fun h_120 => ?_)
              · have hin3 : v 1 10 = 0 → (gfN (v 1 10) x (kpN (v 2) (v 5) (v 6) (v 7)) (16 * i + (k + 1))).1 = -1 := fun h => absurd h h_120
                refine M_iinc (pc := 125) C dX0_placeFor_125 rfl (by decide) ?_
                refine M_goto (pc := 128) C (tgt := 43) dX0_placeFor_128 (by decide) ?_
                refine M.drop [true, true, true, true, true, true, true, false, false] rfl ?_
                exact M.to (ihk (by omega) hin3) (by rw [show 16 * i + (k + 1) = 16 * i + k + 1 by omega, hE]; rfl) rfl rfl
              · have hst : (gfN (v 1 10) x (kpN (v 2) (v 5) (v 6) (v 7)) (384)).1 = ((16 * i + k : Nat) : Int) := by have h9 := gfN_stay (cells := x) (gap := kpN (v 2) (v 5) (v 6) (v 7)) (n := 16 * i + k + 1) (by rw [h_120] at hE; rw [hE]; show ((16 * i + k : Nat) : Int) ≠ -1; omega) (384 - (16 * i + k + 1)); rw [show 16 * i + k + 1 + (384 - (16 * i + k + 1)) = 384 by omega] at h9; rw [h_120] at hE ⊢; rw [h9, hE]
                refine M_iload_n (pc := 123) C dX0_placeFor_123 rfl ?_
                exact M_iret (pc := 124) C rfl dX0_placeFor_124 (by unfold plN; rw [if_pos (by rw [hst]; omega), hst]; rfl) rfl
        · refine M_iload (pc := 55) C dX0_placeFor_55 rfl ?_
          refine M_iload (pc := 57) C dX0_placeFor_57 rfl ?_
          refine M_iconst (pc := 59) C dX0_placeFor_59 ?_
          refine M_isub (pc := 60) C dX0_placeFor_60 ?_
          refine M.to (st2 := [vI ((k - 1 : Nat) : Int), vI ((ktN (v 2) (v 5) (v 6) (v 7) i : Nat) : Int)]) ?_ rfl (by rw [show ((k : Nat) : Int) - 1 = ((k - 1 : Nat) : Int) by omega]) rfl
          refine A_cS (pc := 61) C (x := vI (Bi (btB ((ktN (v 2) (v 5) (v 6) (v 7) i : Nat) : Int) (k - 1)))) (c_X0_isTaken hT (t := ((ktN (v 2) (v 5) (v 6) (v 7) i : Nat) : Int)) (c := k - 1) (by omega) (by omega)) yw_X0_isTaken lk_X0_82 rfl dX0_placeFor_61 rfl (Nat.le_of_ble_eq_true rfl) (by decide) ⟨Nat.le_refl _, Nat.le_refl _⟩ ?_
          refine T_eq (pc := 64) C dX0_placeFor_64 dX0_placeFor_67 dX0_placeFor_68 dX0_placeFor_71 ?_
          refine M_istore (pc := 72) C dX0_placeFor_72 (by decide) ?_
          refine M_iload (pc := 74) C dX0_placeFor_74 rfl ?_
          refine M_if_eq (pc := 76) C (tgt := 89) (Bi_i32 _) dX0_placeFor_76 (by decide) (fun h_76 => ?_) (fun h_76 => ?_)
          · have b_76 := Bi_eq0 h_76
            refine M_iconst (pc := 89) C dX0_placeFor_89 ?_
            refine M.to (st2 := [vI ((kpN (v 2) (v 5) (v 6) (v 7) (16 * i + k) : Nat) : Int)]) ?_ rfl (by unfold kpN; rw [show (16 * i + k) / 16 = i by omega, show (16 * i + k) % 16 = k by omega]; first | (rw [if_pos (Or.inl (by omega))]; done) | (rw [if_pos (Or.inr b_76)]; done) | (rw [if_neg (fun q => Or.elim q (fun q => by omega) (fun q => by rw [b_76] at q; exact absurd q (by decide)))]; rfl)) rfl
            refine M_istore (pc := 90) C dX0_placeFor_90 (by decide) ?_
            refine M_iload (pc := 92) C dX0_placeFor_92 rfl ?_
            refine M_iload_n (pc := 94) C dX0_placeFor_94 rfl ?_
            refine M_icmp_lt (pc := 95) C (tgt := 125) (by omega) (by omega) dX0_placeFor_95 (by decide) (fun h_95 => ?_) (fun h_95 => ?_)
            · have hE : gfN (v 1 10) x (kpN (v 2) (v 5) (v 6) (v 7)) (16 * i + k + 1) = gfN (v 1 10) x (kpN (v 2) (v 5) (v 6) (v 7)) (16 * i + k) := gfN_f (fun q => by have := q.1; omega)
              have hin3 : v 1 10 = 0 → (gfN (v 1 10) x (kpN (v 2) (v 5) (v 6) (v 7)) (16 * i + (k + 1))).1 = -1 := by rw [show 16 * i + (k + 1) = 16 * i + k + 1 by omega, hE]; exact hin2
              refine M_iinc (pc := 125) C dX0_placeFor_125 rfl (by decide) ?_
              refine M_goto (pc := 128) C (tgt := 43) dX0_placeFor_128 (by decide) ?_
              refine M.drop [true, true, true, true, true, true, true, false, false] rfl ?_
              exact M.to (ihk (by omega) hin3) (by rw [show 16 * i + (k + 1) = 16 * i + k + 1 by omega, hE]; rfl) rfl rfl
            · refine M_iload (pc := 98) C dX0_placeFor_98 rfl ?_
              refine M_iload_n (pc := 100) C dX0_placeFor_100 rfl ?_
              refine M_icmp_ge (pc := 101) C (tgt := 125) (by omega) (by omega) dX0_placeFor_101 (by decide) (fun h_101 => ?_) (fun h_101 => ?_)
              · have hE : gfN (v 1 10) x (kpN (v 2) (v 5) (v 6) (v 7)) (16 * i + k + 1) = gfN (v 1 10) x (kpN (v 2) (v 5) (v 6) (v 7)) (16 * i + k) := gfN_f (fun q => by have q2 := q.2; by_cases hr : v 1 10 = 0; (rw [if_pos hr] at q2; have := hm1 q2; omega); (rw [if_neg hr] at q2; omega))
                have hin3 : v 1 10 = 0 → (gfN (v 1 10) x (kpN (v 2) (v 5) (v 6) (v 7)) (16 * i + (k + 1))).1 = -1 := by rw [show 16 * i + (k + 1) = 16 * i + k + 1 by omega, hE]; exact hin2
                refine M_iinc (pc := 125) C dX0_placeFor_125 rfl (by decide) ?_
                refine M_goto (pc := 128) C (tgt := 43) dX0_placeFor_128 (by decide) ?_
                refine M.drop [true, true, true, true, true, true, true, false, false] rfl ?_
                exact M.to (ihk (by omega) hin3) (by rw [show 16 * i + (k + 1) = 16 * i + k + 1 by omega, hE]; rfl) rfl rfl
              · have hE : gfN (v 1 10) x (kpN (v 2) (v 5) (v 6) (v 7)) (16 * i + k + 1) = (((16 * i + k : Nat) : Int), ((kpN (v 2) (v 5) (v 6) (v 7) (16 * i + k) : Nat) : Int)) := gfN_t ⟨by omega, by by_cases hr : v 1 10 = 0; (rw [if_pos hr]; exact hin2 hr); (rw [if_neg hr]; omega)⟩
                refine M_bipush (pc := 104) C (by decide) dX0_placeFor_104 ?_
                refine M_iload (pc := 106) C dX0_placeFor_106 rfl ?_
                refine M_imul (pc := 108) C dX0_placeFor_108 ?_
                refine M_iload (pc := 109) C dX0_placeFor_109 rfl ?_
                refine M_iadd (pc := 111) C dX0_placeFor_111 ?_
                refine M_istore_n (pc := 112) C dX0_placeFor_112 (by decide) ?_
                refine M_iload (pc := 113) C dX0_placeFor_113 rfl ?_
                refine M_istore_n (pc := 115) C dX0_placeFor_115 (by decide) ?_
                refine M_aload_n (pc := 116) C dX0_placeFor_116 rfl (by decide) ?_
                refine A_getI (pc := 117) C fl_X0_43 rfl (a := 1) rfl (tt_1 hT) dX0_placeFor_117 (fun (r_117 : i32 (v 1 10)) => ?_)
                refine M_if_ne (pc := 120) C (tgt := 125) (by omega) dX0_placeFor_120 (by decide) (fun h_120 => ?_) (fun h_120 => ?_)
                · have hin3 : v 1 10 = 0 → (gfN (v 1 10) x (kpN (v 2) (v 5) (v 6) (v 7)) (16 * i + (k + 1))).1 = -1 := fun h => absurd h h_120
                  refine M_iinc (pc := 125) C dX0_placeFor_125 rfl (by decide) ?_
                  refine M_goto (pc := 128) C (tgt := 43) dX0_placeFor_128 (by decide) ?_
                  refine M.drop [true, true, true, true, true, true, true, false, false] rfl ?_
                  exact M.to (ihk (by omega) hin3) (by rw [show 16 * i + (k + 1) = 16 * i + k + 1 by omega, hE]; rfl) rfl rfl
                · have hst : (gfN (v 1 10) x (kpN (v 2) (v 5) (v 6) (v 7)) (384)).1 = ((16 * i + k : Nat) : Int) := by have h9 := gfN_stay (cells := x) (gap := kpN (v 2) (v 5) (v 6) (v 7)) (n := 16 * i + k + 1) (by rw [h_120] at hE; rw [hE]; show ((16 * i + k : Nat) : Int) ≠ -1; omega) (384 - (16 * i + k + 1)); rw [show 16 * i + k + 1 + (384 - (16 * i + k + 1)) = 384 by omega] at h9; rw [h_120] at hE ⊢; rw [h9, hE]
                  refine M_iload_n (pc := 123) C dX0_placeFor_123 rfl ?_
                  exact M_iret (pc := 124) C rfl dX0_placeFor_124 (by unfold plN; rw [if_pos (by rw [hst]; omega), hst]; rfl) rfl
          · have b_76 := Bi_ne0 h_76
            refine M_iload (pc := 79) C dX0_placeFor_79 rfl ?_
            refine M_iload (pc := 81) C dX0_placeFor_81 rfl ?_
            refine A_cS (pc := 83) C (x := vI ((gapL ((ktN (v 2) (v 5) (v 6) (v 7) i : Nat) : Int) k : Nat) : Int)) (c_X0_gapFrom hT (t := ((ktN (v 2) (v 5) (v 6) (v 7) i : Nat) : Int)) (c := k) (by omega) (by omega)) yw_X0_gapFrom lk_X0_91 rfl dX0_placeFor_83 rfl (Nat.le_of_ble_eq_true rfl) (by decide) ⟨Nat.le_refl _, Nat.le_refl _⟩ ?_
            have hgl_83 := gapLen_le (btB ((ktN (v 2) (v 5) (v 6) (v 7) i : Nat) : Int)) (16 - k) k
            refine M_goto (pc := 86) C (tgt := 90) dX0_placeFor_86 (by decide) ?_
            refine M.to (st2 := [vI ((kpN (v 2) (v 5) (v 6) (v 7) (16 * i + k) : Nat) : Int)]) ?_ rfl (by unfold kpN; rw [show (16 * i + k) / 16 = i by omega, show (16 * i + k) % 16 = k by omega]; first | (rw [if_pos (Or.inl (by omega))]; done) | (rw [if_pos (Or.inr b_76)]; done) | (rw [if_neg (fun q => Or.elim q (fun q => by omega) (fun q => by rw [b_76] at q; exact absurd q (by decide)))]; rfl)) rfl
            refine M_istore (pc := 90) C dX0_placeFor_90 (by decide) ?_
            refine M_iload (pc := 92) C dX0_placeFor_92 rfl ?_
            refine M_iload_n (pc := 94) C dX0_placeFor_94 rfl ?_
            refine M_icmp_lt (pc := 95) C (tgt := 125) (by omega) (by omega) dX0_placeFor_95 (by decide) (fun h_95 => ?_) (fun h_95 => ?_)
            · have hE : gfN (v 1 10) x (kpN (v 2) (v 5) (v 6) (v 7)) (16 * i + k + 1) = gfN (v 1 10) x (kpN (v 2) (v 5) (v 6) (v 7)) (16 * i + k) := gfN_f (fun q => by have := q.1; omega)
              have hin3 : v 1 10 = 0 → (gfN (v 1 10) x (kpN (v 2) (v 5) (v 6) (v 7)) (16 * i + (k + 1))).1 = -1 := by rw [show 16 * i + (k + 1) = 16 * i + k + 1 by omega, hE]; exact hin2
              refine M_iinc (pc := 125) C dX0_placeFor_125 rfl (by decide) ?_
              refine M_goto (pc := 128) C (tgt := 43) dX0_placeFor_128 (by decide) ?_
              refine M.drop [true, true, true, true, true, true, true, false, false] rfl ?_
              exact M.to (ihk (by omega) hin3) (by rw [show 16 * i + (k + 1) = 16 * i + k + 1 by omega, hE]; rfl) rfl rfl
            · refine M_iload (pc := 98) C dX0_placeFor_98 rfl ?_
              refine M_iload_n (pc := 100) C dX0_placeFor_100 rfl ?_
              refine M_icmp_ge (pc := 101) C (tgt := 125) (by omega) (by omega) dX0_placeFor_101 (by decide) (fun h_101 => ?_) (fun h_101 => ?_)
              · have hE : gfN (v 1 10) x (kpN (v 2) (v 5) (v 6) (v 7)) (16 * i + k + 1) = gfN (v 1 10) x (kpN (v 2) (v 5) (v 6) (v 7)) (16 * i + k) := gfN_f (fun q => by have q2 := q.2; by_cases hr : v 1 10 = 0; (rw [if_pos hr] at q2; have := hm1 q2; omega); (rw [if_neg hr] at q2; omega))
                have hin3 : v 1 10 = 0 → (gfN (v 1 10) x (kpN (v 2) (v 5) (v 6) (v 7)) (16 * i + (k + 1))).1 = -1 := by rw [show 16 * i + (k + 1) = 16 * i + k + 1 by omega, hE]; exact hin2
                refine M_iinc (pc := 125) C dX0_placeFor_125 rfl (by decide) ?_
                refine M_goto (pc := 128) C (tgt := 43) dX0_placeFor_128 (by decide) ?_
                refine M.drop [true, true, true, true, true, true, true, false, false] rfl ?_
                exact M.to (ihk (by omega) hin3) (by rw [show 16 * i + (k + 1) = 16 * i + k + 1 by omega, hE]; rfl) rfl rfl
              · have hE : gfN (v 1 10) x (kpN (v 2) (v 5) (v 6) (v 7)) (16 * i + k + 1) = (((16 * i + k : Nat) : Int), ((kpN (v 2) (v 5) (v 6) (v 7) (16 * i + k) : Nat) : Int)) := gfN_t ⟨by omega, by by_cases hr : v 1 10 = 0; (rw [if_pos hr]; exact hin2 hr); (rw [if_neg hr]; omega)⟩
                refine M_bipush (pc := 104) C (by decide) dX0_placeFor_104 ?_
                refine M_iload (pc := 106) C dX0_placeFor_106 rfl ?_
                refine M_imul (pc := 108) C dX0_placeFor_108 ?_
                refine M_iload (pc := 109) C dX0_placeFor_109 rfl ?_
                refine M_iadd (pc := 111) C dX0_placeFor_111 ?_
                refine M_istore_n (pc := 112) C dX0_placeFor_112 (by decide) ?_
                refine M_iload (pc := 113) C dX0_placeFor_113 rfl ?_
                refine M_istore_n (pc := 115) C dX0_placeFor_115 (by decide) ?_
                refine M_aload_n (pc := 116) C dX0_placeFor_116 rfl (by decide) ?_
                refine A_getI (pc := 117) C fl_X0_43 rfl (a := 1) rfl (tt_1 hT) dX0_placeFor_117 (fun (r_117 : i32 (v 1 10)) => ?_)
                refine M_if_ne (pc := 120) C (tgt := 125) (by omega) dX0_placeFor_120 (by decide) (fun h_120 => ?_) (fun h_120 => ?_)
                · have hin3 : v 1 10 = 0 → (gfN (v 1 10) x (kpN (v 2) (v 5) (v 6) (v 7)) (16 * i + (k + 1))).1 = -1 := fun h => absurd h h_120
                  refine M_iinc (pc := 125) C dX0_placeFor_125 rfl (by decide) ?_
                  refine M_goto (pc := 128) C (tgt := 43) dX0_placeFor_128 (by decide) ?_
                  refine M.drop [true, true, true, true, true, true, true, false, false] rfl ?_
                  exact M.to (ihk (by omega) hin3) (by rw [show 16 * i + (k + 1) = 16 * i + k + 1 by omega, hE]; rfl) rfl rfl
                · have hst : (gfN (v 1 10) x (kpN (v 2) (v 5) (v 6) (v 7)) (384)).1 = ((16 * i + k : Nat) : Int) := by have h9 := gfN_stay (cells := x) (gap := kpN (v 2) (v 5) (v 6) (v 7)) (n := 16 * i + k + 1) (by rw [h_120] at hE; rw [hE]; show ((16 * i + k : Nat) : Int) ≠ -1; omega) (384 - (16 * i + k + 1)); rw [show 16 * i + k + 1 + (384 - (16 * i + k + 1)) = 384 by omega] at h9; rw [h_120] at hE ⊢; rw [h9, hE]
                  refine M_iload_n (pc := 123) C dX0_placeFor_123 rfl ?_
                  exact M_iret (pc := 124) C rfl dX0_placeFor_124 (by unfold plN; rw [if_pos (by rw [hst]; omega), hst]; rfl) rfl
