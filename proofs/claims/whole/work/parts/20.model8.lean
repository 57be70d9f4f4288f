theorem c_X8_cuts {N : Nat} {T : Ty} {A R : Nat → Int} {f n : Nat} {v : Ct} (hT : TT T) (hI : RI R) (hf : f < 10) (hn : n ≤ 200) (hn1 : 1 ≤ n) : Runs mX8_cuts 8 0 0 [vR 84, vI ((f : Nat) : Int), vI ((n : Nat) : Int)] N T (sa (sa v 88 A) 85 R) (some (vI (opV (cuO R f n)))) N T (sa (sa v 88 (cpA A R 0 0 207)) 85 (opR R (cuO R f n))) := by
  have hf1 := hI f hf
  refine Runs.of (by decide) (Nat.le_of_ble_eq_true rfl) fun κ C => ?_
  refine M_aload_n (pc := 0) C dX8_cuts_0 rfl (by decide) ?_
  refine A_cVv (pc := 1) C (a := 84) (c := 8) (c_X8_layAside hT (v := v) (A := A) (R := R)) yw_X8_layAside lk_X8_112 rfl (congrArg Prod.fst (tt_84 hT)) hc_8 rfl dX8_cuts_1 rfl (Nat.le_of_ble_eq_true rfl) (by decide) ⟨Nat.le_refl _, Nat.le_refl _⟩ ?_
  refine M_aload_n (pc := 4) C dX8_cuts_4 rfl (by decide) ?_
  refine M_iload_n (pc := 5) C dX8_cuts_5 rfl ?_
  refine M_iconst (pc := 6) C dX8_cuts_6 ?_
  refine A_cV (pc := 7) C (x := vI (ro R f 1)) (a := 84) (c := 8) (c_X8_of (f := f) (w := 1) hT (by omega)) yw_X8_of lk_X8_49 rfl (congrArg Prod.fst (tt_84 hT)) hc_8 rfl dX8_cuts_7 rfl (Nat.le_of_ble_eq_true rfl) (by decide) ⟨Nat.le_refl _, Nat.le_refl _⟩ ?_
  refine M_rd (pc := 10) C 85 (27 + 18 * f + 1) (fun (r_7_0 : i32 (ro R f 1)) => ?_)
  refine M_iload_n (pc := 10) C dX8_cuts_10 rfl ?_
  refine M_isub (pc := 11) C dX8_cuts_11 ?_
  refine M_istore_n (pc := 12) C dX8_cuts_12 (by decide) ?_
  refine M.to (L2 := [some (vR 84), some (vI ((f : Nat) : Int)), some (vI ((n : Nat) : Int)), some (vI (ro R f 1 - (n : Int))), none, none]) ?_ rfl rfl rfl
  refine M_aload_n (pc := 13) C dX8_cuts_13 rfl (by decide) ?_
  refine M_iload_n (pc := 14) C dX8_cuts_14 rfl ?_
  refine M_iconst (pc := 15) C dX8_cuts_15 ?_
  refine A_cV (pc := 16) C (x := vI (ro R f 2)) (a := 84) (c := 8) (c_X8_of (f := f) (w := 2) hT (by omega)) yw_X8_of lk_X8_49 rfl (congrArg Prod.fst (tt_84 hT)) hc_8 rfl dX8_cuts_16 rfl (Nat.le_of_ble_eq_true rfl) (by decide) ⟨Nat.le_refl _, Nat.le_refl _⟩ ?_
  refine M_rd (pc := 19) C 85 (27 + 18 * f + 2) (fun (r_16_0 : i32 (ro R f 2)) => ?_)
  refine M_iconst (pc := 19) C dX8_cuts_19 ?_
  refine M_icmp_eq (pc := 20) C (tgt := 27) (by omega) (by omega) dX8_cuts_20 (by decide) (fun h_20 => ?_) (fun h_20 => ?_)
  · have ho : cuO R f n = none := if_pos (Or.inl h_20)
    have hbk : ∀ j, 207 ≤ j → R j = R j := fun _ _ => rfl
    refine M_aload_n (pc := 27) C dX8_cuts_27 rfl (by decide) ?_
    refine A_cV (pc := 28) C (x := vI (-1)) (a := 84) (c := 8) (c_X8_refused hT (v := v) (A := cpA A R 0 0 207) (R := R)) yw_X8_refused lk_X8_115 rfl (congrArg Prod.fst (tt_84 hT)) hc_8 rfl dX8_cuts_28 rfl (Nat.le_of_ble_eq_true rfl) (by decide) ⟨Nat.le_refl _, Nat.le_refl _⟩ ?_
    exact M_iret (pc := 31) C rfl dX8_cuts_31 (by rw [ho]; rfl) (by rw [ho]; first | rfl | (show _ = sa _ 85 (rfR R); rw [cp_back hbk]) | (show _ = sa _ 85 (ctR1 R f S); unfold ctR1; first | (rw [if_pos (by omega)]; rfl) | (rw [if_neg (by omega)])))
  · refine M_iload_n (pc := 23) C dX8_cuts_23 rfl ?_
    refine M_if_ge (pc := 24) C (tgt := 32) (by omega) dX8_cuts_24 (by decide) (fun h_24 => ?_) (fun h_24 => ?_)
    · have hno : ¬ (ro R f 2 = 1 ∨ ro R f 1 - (n : Int) < 0) := by omega
      obtain ⟨S, hS⟩ : ∃ S : Nat, ro R f 1 - (n : Int) = (S : Int) := ⟨(ro R f 1 - n).toNat, by omega⟩
      refine M.to (L2 := [some (vR 84), some (vI ((f : Nat) : Int)), some (vI ((n : Nat) : Int)), some (vI ((S : Nat) : Int)), none, none]) ?_ (by rw [hS]) rfl rfl
      refine M_iload_n (pc := 32) C dX8_cuts_32 rfl ?_
      refine M_bipush (pc := 33) C (by decide) dX8_cuts_33 ?_
      refine M_idiv (pc := 35) C (by omega) (by decide) dX8_cuts_35 ?_
      refine M_aload_n (pc := 36) C dX8_cuts_36 rfl (by decide) ?_
      refine M_iload_n (pc := 37) C dX8_cuts_37 rfl ?_
      refine A_cV (pc := 38) C (x := vI (ro R f 1 / 16)) (a := 84) (c := 8) (c_X8_wholeOf hT hI (f := f) (by omega)) yw_X8_wholeOf lk_X8_93 rfl (congrArg Prod.fst (tt_84 hT)) hc_8 rfl dX8_cuts_38 rfl (Nat.le_of_ble_eq_true rfl) (by decide) ⟨Nat.le_refl _, Nat.le_refl _⟩ ?_
      refine M_icmp_ne (pc := 41) C (tgt := 90) (by omega) (by omega) dX8_cuts_41 (by decide) (fun h_41 => ?_) (fun h_41 => ?_)
      · refine M_aload_n (pc := 90) C dX8_cuts_90 rfl (by decide) ?_
        refine M_iload_n (pc := 91) C dX8_cuts_91 rfl ?_
        have htk := tkR_1 hI hf
        have ho0 : cuO R f n = (ptO (dwN (tkR R f) f ((ro R f 1 / 16).toNat - S / 16)) f ((S % 16 : Nat) : Int)).map (fun R2 => (((S : Nat) : Int), R2)) := by unfold cuO; rw [if_neg hno, hS, Int.toNat_natCast, if_neg (by omega)]
        refine A_cVv (pc := 92) C (a := 84) (c := 8) (c_X8_takeTail hT (v := sa v 88 (cpA A R 0 0 207)) (R := R) (f := f) hI (by omega)) yw_X8_takeTail lk_X8_127 rfl (congrArg Prod.fst (tt_84 hT)) hc_8 rfl dX8_cuts_92 rfl (Nat.le_of_ble_eq_true rfl) (by decide) ⟨Nat.le_refl _, Nat.le_refl _⟩ ?_
        refine loop_ms (S := Nat → Int) (P := fun S1 => (RI S1 ∧ ro S1 f 1 % 16 = 0 ∧ (S : Int) / 16 ≤ ro S1 f 1 / 16 ∧ dwN (tkR R f) f ((ro R f 1 / 16).toNat - S / 16) = dwN S1 f ((ro S1 f 1 / 16).toNat - S / 16) ∧ ∀ j, 207 ≤ j → S1 j = R j) → M κ N T 95 [some (vR 84), some (vI ((f : Nat) : Int)), some (vI ((n : Nat) : Int)), some (vI ((S : Nat) : Int)), none, none] [] (sa (sa v 88 (cpA A R 0 0 207)) 85 S1) 0 0 (QR κ (some (vI (opV (cuO R f n)))) N T (sa (sa v 88 (cpA A R 0 0 207)) 85 (opR R (cuO R f n))) 0 0)) (fun S1 => (ro S1 f 1 / 16).toNat - S / 16) (fun S1 ih => ?_) (tkR R f) ⟨RI_tkR hI hf, by rw [htk]; omega, by rw [htk]; omega, by rw [htk, show 16 * (ro R f 1 / 16) / 16 = ro R f 1 / 16 by omega], fun j hj => tkR_hi hI hf hj⟩
        intro hin
        obtain ⟨hI1, hz1, hz2, hz3, hz4⟩ := hin
        have hf2 := hI1 f hf
        refine M_aload_n (pc := 95) C dX8_cuts_95 rfl (by decide) ?_
        refine M_iload_n (pc := 96) C dX8_cuts_96 rfl ?_
        refine A_cV (pc := 97) C (x := vI (ro S1 f 1 / 16)) (a := 84) (c := 8) (c_X8_wholeOf hT hI1 (f := f) (by omega)) yw_X8_wholeOf lk_X8_93 rfl (congrArg Prod.fst (tt_84 hT)) hc_8 rfl dX8_cuts_97 rfl (Nat.le_of_ble_eq_true rfl) (by decide) ⟨Nat.le_refl _, Nat.le_refl _⟩ ?_
        refine M_iload_n (pc := 100) C dX8_cuts_100 rfl ?_
        refine M_bipush (pc := 101) C (by decide) dX8_cuts_101 ?_
        refine M_idiv (pc := 103) C (by omega) (by decide) dX8_cuts_103 ?_
        refine M_icmp_le (pc := 104) C (tgt := 148) (by omega) (by omega) dX8_cuts_104 (by decide) (fun h_104 => ?_) (fun h_104 => ?_)
        · have hz5 : dwN (tkR R f) f ((ro R f 1 / 16).toNat - S / 16) = S1 := by rw [hz3, show (ro S1 f 1 / 16).toNat - S / 16 = 0 by omega]; rfl
          refine M_aload_n (pc := 148) C dX8_cuts_148 rfl (by decide) ?_
          refine M_iload_n (pc := 149) C dX8_cuts_149 rfl ?_
          refine M_iload_n (pc := 150) C dX8_cuts_150 rfl ?_
          refine M_bipush (pc := 151) C (by decide) dX8_cuts_151 ?_
          refine M_irem (pc := 153) C (by omega) (by decide) dX8_cuts_153 ?_
          refine A_pV (pc := 154) C (a := 84) (c := 8) (c_X8_placeTail hT (v := sa v 88 (cpA A R 0 0 207)) (R := S1) (f := f) (c := S % 16) hI1 (by omega) (by omega)) yw_X8_placeTail lk_X8_121 rfl (congrArg Prod.fst (tt_84 hT)) hc_8 rfl dX8_cuts_154 rfl (Nat.le_of_ble_eq_true rfl) (by decide) ⟨Nat.le_refl _, Nat.le_refl _⟩ (fun r_154 v_154 p_154 => ?_)
          obtain ⟨R_154, rfl, rfl, hs_154, ht_154⟩ := p_154
          refine M.to (pc := 157) (st2 := [vI (Bi (ptO S1 f ((S % 16 : Nat) : Int)).isSome)]) (v2 := sa (sa v 88 (cpA A R 0 0 207)) 85 R_154) ?_ rfl rfl rfl
          refine M_if_eq (pc := 157) C (tgt := 164) (Bi_i32 _) dX8_cuts_157 (by decide) (fun h_157 => ?_) (fun h_157 => ?_)
          · have b_157 := Bi_eq0 h_157
            have ho : cuO R f n = none := by rw [ho0, hz5, isSome_f b_157]; rfl
            have hbk : ∀ j, 207 ≤ j → R_154 j = R j := fun j hj => (ht_154 j hj).trans (hz4 j hj)
            refine M_aload_n (pc := 164) C dX8_cuts_164 rfl (by decide) ?_
            refine A_cV (pc := 165) C (x := vI (-1)) (a := 84) (c := 8) (c_X8_refused hT (v := v) (A := cpA A R 0 0 207) (R := R_154)) yw_X8_refused lk_X8_115 rfl (congrArg Prod.fst (tt_84 hT)) hc_8 rfl dX8_cuts_165 rfl (Nat.le_of_ble_eq_true rfl) (by decide) ⟨Nat.le_refl _, Nat.le_refl _⟩ ?_
            exact M_iret (pc := 168) C rfl dX8_cuts_168 (by rw [ho]; rfl) (by rw [ho]; first | rfl | (show _ = sa _ 85 (rfR R); rw [cp_back hbk]) | (show _ = sa _ 85 (ctR1 R f S); unfold ctR1; first | (rw [if_pos (by omega)]; rfl) | (rw [if_neg (by omega)])))
          · have b_157 := Bi_ne0 h_157
            obtain ⟨R5, h5⟩ := isSome_t b_157
            have e5 := hs_154 R5 h5
            subst e5
            have ho : cuO R f n = some (((S : Nat) : Int), R_154) := by rw [ho0, hz5, h5]; rfl
            refine M_iload_n (pc := 160) C dX8_cuts_160 rfl ?_
            refine M_goto (pc := 161) C (tgt := 168) dX8_cuts_161 (by decide) ?_
            exact M_iret (pc := 168) C rfl dX8_cuts_168 (by rw [ho]; rfl) (by rw [ho]; first | rfl | (show _ = sa _ 85 (rfR R); rw [cp_back hbk]) | (show _ = sa _ 85 (ctR1 R f S); unfold ctR1; first | (rw [if_pos (by omega)]; rfl) | (rw [if_neg (by omega)])))
        · refine M_aload_n (pc := 107) C dX8_cuts_107 rfl (by decide) ?_
          refine A_getR (pc := 108) C fl_X8_7 rfl (a := 84) (j := 85) rfl (tt_84 hT) rfl dX8_cuts_108 ?_
          refine M_iconst (pc := 111) C dX8_cuts_111 ?_
          refine M_aload_n (pc := 112) C dX8_cuts_112 rfl (by decide) ?_
          refine M_iload_n (pc := 113) C dX8_cuts_113 rfl ?_
          refine M_bipush (pc := 114) C (by decide) dX8_cuts_114 ?_
          refine M_aload_n (pc := 116) C dX8_cuts_116 rfl (by decide) ?_
          refine M_iload_n (pc := 117) C dX8_cuts_117 rfl ?_
          refine A_cV (pc := 118) C (x := vI (ro S1 f 1 / 16)) (a := 84) (c := 8) (c_X8_wholeOf hT hI1 (f := f) (by omega)) yw_X8_wholeOf lk_X8_93 rfl (congrArg Prod.fst (tt_84 hT)) hc_8 rfl dX8_cuts_118 rfl (Nat.le_of_ble_eq_true rfl) (by decide) ⟨Nat.le_refl _, Nat.le_refl _⟩ ?_
          refine M_iadd (pc := 121) C dX8_cuts_121 ?_
          refine M_iconst (pc := 122) C dX8_cuts_122 ?_
          refine M_isub (pc := 123) C dX8_cuts_123 ?_
          refine A_cV (pc := 124) C (x := vI (ro S1 f (6 + (ro S1 f 1 / 16).toNat - 1))) (a := 84) (c := 8) (c_X8_of_i hT (f := f) (w := 6 + (ro S1 f 1 / 16).toNat - 1) (by omega) (by omega)) yw_X8_of lk_X8_49 rfl (congrArg Prod.fst (tt_84 hT)) hc_8 rfl dX8_cuts_124 rfl (Nat.le_of_ble_eq_true rfl) (by decide) ⟨Nat.le_refl _, Nat.le_refl _⟩ ?_
          refine M_rd (pc := 127) C 85 (27 + 18 * f + (6 + (ro S1 f 1 / 16).toNat - 1)) (fun (r_124_0 : i32 (ro S1 f (6 + (ro S1 f 1 / 16).toNat - 1))) => ?_)
          have hli := hf2.2.2.2.2.1 ((ro S1 f 1 / 16).toNat - 1) (by omega)
          rw [show 6 + ((ro S1 f 1 / 16).toNat - 1) = 6 + (ro S1 f 1 / 16).toNat - 1 by omega] at hli
          refine M_iadd (pc := 127) C dX8_cuts_127 ?_
          refine M_iconst (pc := 128) C dX8_cuts_128 ?_
          refine A_iast (pc := 129) C (a := 85) (q := (3 + (ro S1 f (6 + (ro S1 f 1 / 16).toNat - 1)).toNat)) rfl (tt_85 hT) (by decide) (by omega) (by omega) (by omega) dX8_cuts_129 ?_
          refine M.to (pc := 130) (v2 := sa (sa v 88 (cpA A R 0 0 207)) 85 (rs S1 (3 + (ro S1 f (6 + (ro S1 f 1 / 16).toNat - 1)).toNat) 0)) ?_ rfl rfl (by rw [sa_up0])
          have e7 : ro (rs S1 (3 + (ro S1 f (6 + (ro S1 f 1 / 16).toNat - 1)).toNat) 0) f 1 = ro S1 f 1 := ro_rsb (by omega)
          refine M_aload_n (pc := 130) C dX8_cuts_130 rfl (by decide) ?_
          refine M_iload_n (pc := 131) C dX8_cuts_131 rfl ?_
          refine M_iconst (pc := 132) C dX8_cuts_132 ?_
          refine M_aload_n (pc := 133) C dX8_cuts_133 rfl (by decide) ?_
          refine M_iload_n (pc := 134) C dX8_cuts_134 rfl ?_
          refine M_iconst (pc := 135) C dX8_cuts_135 ?_
          refine A_cV (pc := 136) C (x := vI (ro (rs S1 (3 + (ro S1 f (6 + (ro S1 f 1 / 16).toNat - 1)).toNat) 0) f 1)) (a := 84) (c := 8) (c_X8_of (f := f) (w := 1) hT (by omega)) yw_X8_of lk_X8_49 rfl (congrArg Prod.fst (tt_84 hT)) hc_8 rfl dX8_cuts_136 rfl (Nat.le_of_ble_eq_true rfl) (by decide) ⟨Nat.le_refl _, Nat.le_refl _⟩ ?_
          refine M_rd (pc := 139) C 85 (27 + 18 * f + 1) (fun (r_136_0 : i32 (ro (rs S1 (3 + (ro S1 f (6 + (ro S1 f 1 / 16).toNat - 1)).toNat) 0) f 1)) => ?_)
          refine M_bipush (pc := 139) C (by decide) dX8_cuts_139 ?_
          refine M_isub (pc := 141) C dX8_cuts_141 ?_
          refine M.to (st2 := [vI (ro S1 f 1 - 16), vI 1, vI ((f : Nat) : Int), vR 84]) ?_ rfl (by rw [e7]) rfl
          refine A_cVv (pc := 142) C (a := 84) (c := 8) (c_X8_lay (f := f) (w := 1) hT (by omega) (by omega)) yw_X8_lay lk_X8_96 rfl (congrArg Prod.fst (tt_84 hT)) hc_8 rfl dX8_cuts_142 rfl (Nat.le_of_ble_eq_true rfl) (by decide) ⟨Nat.le_refl _, Nat.le_refl _⟩ ?_
          refine M.to (v2 := sa (sa v 88 (cpA A R 0 0 207)) 85 (rs (rs S1 (3 + (ro S1 f (6 + (ro S1 f 1 / 16).toNat - 1)).toNat) 0) (27 + 18 * f + 1) (ro S1 f 1 - 16))) ?_ rfl rfl (by rw [sa_up0])
          refine M_goto (pc := 145) C (tgt := 95) dX8_cuts_145 (by decide) ?_
          have e8 : ro (dwS S1 f) f 1 = ro S1 f 1 - 16 := by rw [dwS_ro hI1 hf (by omega) (by omega), if_pos ⟨rfl, rfl⟩]
          exact M.to (ih (dwS S1 f) (by omega) ⟨RI_dwS hI1 hf (by omega) hz1, by omega, by omega, by rw [hz3, show (ro S1 f 1 / 16).toNat - S / 16 = ((ro (dwS S1 f) f 1 / 16).toNat - S / 16) + 1 by omega]; rfl, fun j hj => (dwS_hi hI1 hf (by omega) hj).trans (hz4 j hj)⟩) rfl rfl rfl
      · have ho : cuO R f n = some (((S : Nat) : Int), ctR1 R f S) := by unfold cuO; rw [if_neg hno, hS, Int.toNat_natCast, if_pos (by omega)]
        refine M_aload_n (pc := 44) C dX8_cuts_44 rfl (by decide) ?_
        refine M_iload_n (pc := 45) C dX8_cuts_45 rfl ?_
        refine M_iconst (pc := 46) C dX8_cuts_46 ?_
        refine A_cV (pc := 47) C (x := vI (ro R f 3)) (a := 84) (c := 8) (c_X8_of (f := f) (w := 3) hT (by omega)) yw_X8_of lk_X8_49 rfl (congrArg Prod.fst (tt_84 hT)) hc_8 rfl dX8_cuts_47 rfl (Nat.le_of_ble_eq_true rfl) (by decide) ⟨Nat.le_refl _, Nat.le_refl _⟩ ?_
        refine M_rd (pc := 50) C 85 (27 + 18 * f + 3) (fun (r_47_0 : i32 (ro R f 3)) => ?_)
        refine M_istore (pc := 50) C dX8_cuts_50 (by decide) ?_
        refine M_aload_n (pc := 52) C dX8_cuts_52 rfl (by decide) ?_
        refine M_iload_n (pc := 53) C dX8_cuts_53 rfl ?_
        refine M_iconst (pc := 54) C dX8_cuts_54 ?_
        refine M_iload_n (pc := 55) C dX8_cuts_55 rfl ?_
        refine A_cVv (pc := 56) C (a := 84) (c := 8) (c_X8_lay (f := f) (w := 1) hT (by omega) (by omega)) yw_X8_lay lk_X8_96 rfl (congrArg Prod.fst (tt_84 hT)) hc_8 rfl dX8_cuts_56 rfl (Nat.le_of_ble_eq_true rfl) (by decide) ⟨Nat.le_refl _, Nat.le_refl _⟩ ?_
        refine M.to (v2 := sa (sa v 88 (cpA A R 0 0 207)) 85 (rs R (27 + 18 * f + 1) ((S : Nat) : Int))) ?_ rfl rfl (by rw [sa_up0])
        refine M_iload_n (pc := 59) C dX8_cuts_59 rfl ?_
        refine M_bipush (pc := 60) C (by decide) dX8_cuts_60 ?_
        refine M_irem (pc := 62) C (by omega) (by decide) dX8_cuts_62 ?_
        refine M_if_ne (pc := 63) C (tgt := 88) (by omega) dX8_cuts_63 (by decide) (fun h_63 => ?_) (fun h_63 => ?_)
        · refine M_iload_n (pc := 88) C dX8_cuts_88 rfl ?_
          exact M_iret (pc := 89) C rfl dX8_cuts_89 (by rw [ho]; rfl) (by rw [ho]; first | rfl | (show _ = sa _ 85 (rfR R); rw [cp_back hbk]) | (show _ = sa _ 85 (ctR1 R f S); unfold ctR1; first | (rw [if_pos (by omega)]; rfl) | (rw [if_neg (by omega)])))
        · refine M_aload_n (pc := 66) C dX8_cuts_66 rfl (by decide) ?_
          refine M_iload_n (pc := 67) C dX8_cuts_67 rfl ?_
          refine M_iconst (pc := 68) C dX8_cuts_68 ?_
          refine M_iconst (pc := 69) C dX8_cuts_69 ?_
          refine A_cVv (pc := 70) C (a := 84) (c := 8) (c_X8_lay (f := f) (w := 3) hT (by omega) (by decide)) yw_X8_lay lk_X8_96 rfl (congrArg Prod.fst (tt_84 hT)) hc_8 rfl dX8_cuts_70 rfl (Nat.le_of_ble_eq_true rfl) (by decide) ⟨Nat.le_refl _, Nat.le_refl _⟩ ?_
          refine M.to (v2 := sa (sa v 88 (cpA A R 0 0 207)) 85 (rs (rs R (27 + 18 * f + 1) ((S : Nat) : Int)) (27 + 18 * f + 3) (-1))) ?_ rfl rfl (by rw [sa_up0])
          refine M_aload_n (pc := 73) C dX8_cuts_73 rfl (by decide) ?_
          refine M_iload_n (pc := 74) C dX8_cuts_74 rfl ?_
          refine M_iconst (pc := 75) C dX8_cuts_75 ?_
          refine M_iconst (pc := 76) C dX8_cuts_76 ?_
          refine A_cVv (pc := 77) C (a := 84) (c := 8) (c_X8_lay (f := f) (w := 4) hT (by omega) (by decide)) yw_X8_lay lk_X8_96 rfl (congrArg Prod.fst (tt_84 hT)) hc_8 rfl dX8_cuts_77 rfl (Nat.le_of_ble_eq_true rfl) (by decide) ⟨Nat.le_refl _, Nat.le_refl _⟩ ?_
          refine M.to (v2 := sa (sa v 88 (cpA A R 0 0 207)) 85 (rs (rs (rs R (27 + 18 * f + 1) ((S : Nat) : Int)) (27 + 18 * f + 3) (-1)) (27 + 18 * f + 4) (-1))) ?_ rfl rfl (by rw [sa_up0])
          refine M_aload_n (pc := 80) C dX8_cuts_80 rfl (by decide) ?_
          refine M_iload (pc := 81) C dX8_cuts_81 rfl ?_
          refine A_cV (pc := 83) C (x := vI (Bi (frC (rs (rs (rs R (27 + 18 * f + 1) ((S : Nat) : Int)) (27 + 18 * f + 3) (-1)) (27 + 18 * f + 4) (-1)) ((ro R f 3).toNat)))) (a := 84) (c := 8) (c_X8_frees_i hT (v := sa v 88 (cpA A R 0 0 207)) (R := rs (rs (rs R (27 + 18 * f + 1) ((S : Nat) : Int)) (27 + 18 * f + 3) (-1)) (27 + 18 * f + 4) (-1)) (x := ro R f 3) (b := (ro R f 3).toNat) (RI_ct0 hI hf (by omega) (by omega)) (by omega) (by omega)) yw_X8_frees lk_X8_100 rfl (congrArg Prod.fst (tt_84 hT)) hc_8 rfl dX8_cuts_83 rfl (Nat.le_of_ble_eq_true rfl) (by decide) ⟨Nat.le_refl _, Nat.le_refl _⟩ ?_
          refine M_istore (pc := 86) C dX8_cuts_86 (by decide) ?_
          refine M_iload_n (pc := 88) C dX8_cuts_88 rfl ?_
          exact M_iret (pc := 89) C rfl dX8_cuts_89 (by rw [ho]; rfl) (by rw [ho]; first | rfl | (show _ = sa _ 85 (rfR R); rw [cp_back hbk]) | (show _ = sa _ 85 (ctR1 R f S); unfold ctR1; first | (rw [if_pos (by omega)]; rfl) | (rw [if_neg (by omega)])))
    · have ho : cuO R f n = none := if_pos (Or.inr (by omega))
      have hbk : ∀ j, 207 ≤ j → R j = R j := fun _ _ => rfl
      refine M_aload_n (pc := 27) C dX8_cuts_27 rfl (by decide) ?_
      refine A_cV (pc := 28) C (x := vI (-1)) (a := 84) (c := 8) (c_X8_refused hT (v := v) (A := cpA A R 0 0 207) (R := R)) yw_X8_refused lk_X8_115 rfl (congrArg Prod.fst (tt_84 hT)) hc_8 rfl dX8_cuts_28 rfl (Nat.le_of_ble_eq_true rfl) (by decide) ⟨Nat.le_refl _, Nat.le_refl _⟩ ?_
      exact M_iret (pc := 31) C rfl dX8_cuts_31 (by rw [ho]; rfl) (by rw [ho]; first | rfl | (show _ = sa _ 85 (rfR R); rw [cp_back hbk]) | (show _ = sa _ 85 (ctR1 R f S); unfold ctR1; first | (rw [if_pos (by omega)]; rfl) | (rw [if_neg (by omega)])))
theorem c_X8_deletes {N : Nat} {T : Ty} {R : Nat → Int} {f : Nat} {v : Ct} (hT : TT T) (hI : RI R) (hf : f < 10) : Runs mX8_deletes 5 0 0 [vR 84, vI ((f : Nat) : Int)] N T (sa v 85 R) (some (vI (dlV R f))) N T (sa v 85 (dlR R f)) := by
  have hf1 := hI f hf
  refine Runs.of (by decide) (Nat.le_of_ble_eq_true rfl) fun κ C => ?_
  refine M_iconst (pc := 0) C dX8_deletes_0 ?_
  refine M_istore_n (pc := 1) C dX8_deletes_1 (by decide) ?_
  refine M_iconst (pc := 2) C dX8_deletes_2 ?_
  refine M_istore_n (pc := 3) C dX8_deletes_3 (by decide) ?_
  refine loop_le (P := fun i => M κ N T 4 [some (vR 84), some (vI ((f : Nat) : Int)), some (vI (dcN R f i)), some (vI ((i : Nat) : Int)), none] [] (sa v 85 (dlN R f i)) 0 0 (QR κ (some (vI (dlV R f))) N T (sa v 85 (dlR R f)) 0 0)) ((ro R f 1 / 16).toNat) (fun i hi ih => ?_)
  have hId := RI_dlN hI hf (k := i) (by omega)
  have e1 : ro (dlN R f i) f 1 = ro R f 1 := dlN_ro hI hf (by omega)
  have e2 : ro (dlN R f i) f (6 + i) = ro R f (6 + i) := dlN_ro hI hf (by omega)
  refine M_iload_n (pc := 4) C dX8_deletes_4 rfl ?_
  refine M_aload_n (pc := 5) C dX8_deletes_5 rfl (by decide) ?_
  refine M_iload_n (pc := 6) C dX8_deletes_6 rfl ?_
  refine A_cV (pc := 7) C (x := vI (ro (dlN R f i) f 1 / 16)) (a := 84) (c := 8) (c_X8_wholeOf hT hId (f := f) (by omega)) yw_X8_wholeOf lk_X8_93 rfl (congrArg Prod.fst (tt_84 hT)) hc_8 rfl dX8_deletes_7 rfl (Nat.le_of_ble_eq_true rfl) (by decide) ⟨Nat.le_refl _, Nat.le_refl _⟩ ?_
  refine M_icmp_ge (pc := 10) C (tgt := 86) (by omega) (by omega) dX8_deletes_10 (by decide) (fun h_10 => ?_) (fun h_10 => ?_)
  · have hik : i = (ro R f 1 / 16).toNat := by omega
    subst hik
    have hId := RI_dlN hI hf (k := (ro R f 1 / 16).toNat) (by omega)
    have e3 : ro (dlN R f (ro R f 1 / 16).toNat) f 3 = ro R f 3 := dlN_ro hI hf (by omega)
    refine M_aload_n (pc := 86) C dX8_deletes_86 rfl (by decide) ?_
    refine M_iload_n (pc := 87) C dX8_deletes_87 rfl ?_
    refine A_cV (pc := 88) C (x := vI (ro (dlN R f (ro R f 1 / 16).toNat) f 1 % 16)) (a := 84) (c := 8) (c_X8_tailOf hT (RI_dlN hI hf (by omega)) (f := f) (by omega)) yw_X8_tailOf lk_X8_57 rfl (congrArg Prod.fst (tt_84 hT)) hc_8 rfl dX8_deletes_88 rfl (Nat.le_of_ble_eq_true rfl) (by decide) ⟨Nat.le_refl _, Nat.le_refl _⟩ ?_
    refine M_if_le (pc := 91) C (tgt := 103) (by omega) dX8_deletes_91 (by decide) (fun h_91 => ?_) (fun h_91 => ?_)
    · refine M_iconst (pc := 103) C dX8_deletes_103 ?_
      refine M_istore_n (pc := 104) C dX8_deletes_104 (by decide) ?_
      refine M_iconst (pc := 105) C dX8_deletes_105 ?_
      refine M_istore (pc := 106) C dX8_deletes_106 (by decide) ?_
      refine M.to (v2 := sa v 85 (zrR (dlN R f (ro R f 1 / 16).toNat) f 0)) ?_ rfl rfl (by rw [zrR_0])
      refine loop_le (P := fun i => M κ N T 108 [some (vR 84), some (vI ((f : Nat) : Int)), some (vI (dcN R f (ro R f 1 / 16).toNat)), some (vI (-1)), some (vI ((i : Nat) : Int))] [] (sa v 85 (zrR (dlN R f (ro R f 1 / 16).toNat) f i)) 0 0 (QR κ (some (vI (dlV R f))) N T (sa v 85 (dlR R f)) 0 0)) 18 (fun i hi ih => ?_)
      refine M_iload (pc := 108) C dX8_deletes_108 rfl ?_
      refine M_bipush (pc := 110) C (by decide) dX8_deletes_110 ?_
      refine M_icmp_ge (pc := 112) C (tgt := 129) (by omega) (by omega) dX8_deletes_112 (by decide) (fun h_112 => ?_) (fun h_112 => ?_)
      · have hi18 : i = 18 := by omega
        subst hi18
        refine M.to (v2 := sa v 85 (dl1 R f)) ?_ rfl rfl rfl
        refine M_iload_n (pc := 129) C dX8_deletes_129 rfl ?_
        refine M_iload_n (pc := 130) C dX8_deletes_130 rfl ?_
        refine M_iconst (pc := 131) C dX8_deletes_131 ?_
        refine M_icmp_ne (pc := 132) C (tgt := 139) (by decide) (by decide) dX8_deletes_132 (by decide) (fun h => absurd h (by decide)) (fun _ => ?_)
        refine M_iconst (pc := 135) C dX8_deletes_135 ?_
        refine M_goto (pc := 136) C (tgt := 144) dX8_deletes_136 (by decide) ?_
        refine M_iadd (pc := 144) C dX8_deletes_144 ?_
        exact M_iret (pc := 145) C rfl dX8_deletes_145 (by unfold dlV; first | (rw [if_pos (by omega)]) | (rw [if_neg (by omega)])) (by unfold dlR; first | (rw [if_pos (by omega)]) | (rw [if_neg (by omega)]))
      · refine M_aload_n (pc := 115) C dX8_deletes_115 rfl (by decide) ?_
        refine M_iload_n (pc := 116) C dX8_deletes_116 rfl ?_
        refine M_iload (pc := 117) C dX8_deletes_117 rfl ?_
        refine M_iconst (pc := 119) C dX8_deletes_119 ?_
        refine A_cVv (pc := 120) C (a := 84) (c := 8) (c_X8_lay (f := f) (w := i) hT (by omega) (by decide)) yw_X8_lay lk_X8_96 rfl (congrArg Prod.fst (tt_84 hT)) hc_8 rfl dX8_deletes_120 rfl (Nat.le_of_ble_eq_true rfl) (by decide) ⟨Nat.le_refl _, Nat.le_refl _⟩ ?_
        refine M.to (v2 := sa v 85 (rs (zrR (dlN R f (ro R f 1 / 16).toNat) f i) (27 + 18 * f + i) 0)) ?_ rfl rfl (by rw [sa_up0])
        refine M_iinc (pc := 123) C dX8_deletes_123 rfl (by decide) ?_
        refine M_goto (pc := 126) C (tgt := 108) dX8_deletes_126 (by decide) ?_
        exact M.to (ih (by omega)) rfl rfl (by rw [zrR_s])
    · refine M_aload_n (pc := 94) C dX8_deletes_94 rfl (by decide) ?_
      refine M_iload_n (pc := 95) C dX8_deletes_95 rfl ?_
      refine M_iconst (pc := 96) C dX8_deletes_96 ?_
      refine A_cV (pc := 97) C (x := vI (ro (dlN R f (ro R f 1 / 16).toNat) f 3)) (a := 84) (c := 8) (c_X8_of (f := f) (w := 3) hT (by omega)) yw_X8_of lk_X8_49 rfl (congrArg Prod.fst (tt_84 hT)) hc_8 rfl dX8_deletes_97 rfl (Nat.le_of_ble_eq_true rfl) (by decide) ⟨Nat.le_refl _, Nat.le_refl _⟩ ?_
      refine M_rd (pc := 100) C 85 (27 + 18 * f + 3) (fun (r_97_0 : i32 (ro (dlN R f (ro R f 1 / 16).toNat) f 3)) => ?_)
      refine M.to (st2 := [vI (ro R f 3)]) ?_ rfl (by rw [e3]) rfl
      refine M_goto (pc := 100) C (tgt := 104) dX8_deletes_100 (by decide) ?_
      refine M_istore_n (pc := 104) C dX8_deletes_104 (by decide) ?_
      refine M_iconst (pc := 105) C dX8_deletes_105 ?_
      refine M_istore (pc := 106) C dX8_deletes_106 (by decide) ?_
      refine M.to (v2 := sa v 85 (zrR (dlN R f (ro R f 1 / 16).toNat) f 0)) ?_ rfl rfl (by rw [zrR_0])
      refine loop_le (P := fun i => M κ N T 108 [some (vR 84), some (vI ((f : Nat) : Int)), some (vI (dcN R f (ro R f 1 / 16).toNat)), some (vI (ro R f 3)), some (vI ((i : Nat) : Int))] [] (sa v 85 (zrR (dlN R f (ro R f 1 / 16).toNat) f i)) 0 0 (QR κ (some (vI (dlV R f))) N T (sa v 85 (dlR R f)) 0 0)) 18 (fun i hi ih => ?_)
      refine M_iload (pc := 108) C dX8_deletes_108 rfl ?_
      refine M_bipush (pc := 110) C (by decide) dX8_deletes_110 ?_
      refine M_icmp_ge (pc := 112) C (tgt := 129) (by omega) (by omega) dX8_deletes_112 (by decide) (fun h_112 => ?_) (fun h_112 => ?_)
      · have hi18 : i = 18 := by omega
        subst hi18
        refine M.to (v2 := sa v 85 (dl1 R f)) ?_ rfl rfl rfl
        refine M_iload_n (pc := 129) C dX8_deletes_129 rfl ?_
        refine M_iload_n (pc := 130) C dX8_deletes_130 rfl ?_
        refine M_iconst (pc := 131) C dX8_deletes_131 ?_
        refine M_icmp_ne (pc := 132) C (tgt := 139) (by omega) (by omega) dX8_deletes_132 (by decide) (fun h_132 => ?_) (fun h_132 => ?_)
        · refine M_aload_n (pc := 139) C dX8_deletes_139 rfl (by decide) ?_
          refine M_iload_n (pc := 140) C dX8_deletes_140 rfl ?_
          refine A_cV (pc := 141) C (x := vI (Bi (frC (dl1 R f) ((ro R f 3).toNat)))) (a := 84) (c := 8) (c_X8_frees_i hT (v := v) (R := dl1 R f) (x := ro R f 3) (b := (ro R f 3).toNat) (RI_zr (RI_dlN hI hf (by omega))) (by omega) (by omega)) yw_X8_frees lk_X8_100 rfl (congrArg Prod.fst (tt_84 hT)) hc_8 rfl dX8_deletes_141 rfl (Nat.le_of_ble_eq_true rfl) (by decide) ⟨Nat.le_refl _, Nat.le_refl _⟩ ?_
          refine M_iadd (pc := 144) C dX8_deletes_144 ?_
          exact M_iret (pc := 145) C rfl dX8_deletes_145 (by unfold dlV; first | (rw [if_pos (by omega)]) | (rw [if_neg (by omega)])) (by unfold dlR; first | (rw [if_pos (by omega)]) | (rw [if_neg (by omega)]))
        · exfalso
          omega
      · refine M_aload_n (pc := 115) C dX8_deletes_115 rfl (by decide) ?_
        refine M_iload_n (pc := 116) C dX8_deletes_116 rfl ?_
        refine M_iload (pc := 117) C dX8_deletes_117 rfl ?_
        refine M_iconst (pc := 119) C dX8_deletes_119 ?_
        refine A_cVv (pc := 120) C (a := 84) (c := 8) (c_X8_lay (f := f) (w := i) hT (by omega) (by decide)) yw_X8_lay lk_X8_96 rfl (congrArg Prod.fst (tt_84 hT)) hc_8 rfl dX8_deletes_120 rfl (Nat.le_of_ble_eq_true rfl) (by decide) ⟨Nat.le_refl _, Nat.le_refl _⟩ ?_
        refine M.to (v2 := sa v 85 (rs (zrR (dlN R f (ro R f 1 / 16).toNat) f i) (27 + 18 * f + i) 0)) ?_ rfl rfl (by rw [sa_up0])
        refine M_iinc (pc := 123) C dX8_deletes_123 rfl (by decide) ?_
        refine M_goto (pc := 126) C (tgt := 108) dX8_deletes_126 (by decide) ?_
        exact M.to (ih (by omega)) rfl rfl (by rw [zrR_s])
  · refine M_aload_n (pc := 13) C dX8_deletes_13 rfl (by decide) ?_
    refine M_iload_n (pc := 14) C dX8_deletes_14 rfl ?_
    refine M_bipush (pc := 15) C (by decide) dX8_deletes_15 ?_
    refine M_iload_n (pc := 17) C dX8_deletes_17 rfl ?_
    refine M_iadd (pc := 18) C dX8_deletes_18 ?_
    refine A_cV (pc := 19) C (x := vI (ro (dlN R f i) f (6 + i))) (a := 84) (c := 8) (c_X8_of (f := f) (w := 6 + i) hT (by omega)) yw_X8_of lk_X8_49 rfl (congrArg Prod.fst (tt_84 hT)) hc_8 rfl dX8_deletes_19 rfl (Nat.le_of_ble_eq_true rfl) (by decide) ⟨Nat.le_refl _, Nat.le_refl _⟩ ?_
    refine M_rd (pc := 22) C 85 (27 + 18 * f + (6 + i)) (fun (r_19_0 : i32 (ro (dlN R f i) f (6 + i))) => ?_)
    have hli := hf1.2.2.2.2.1 i (by omega)
    refine M.to (st2 := [vI (ro R f (6 + i))]) ?_ rfl (by rw [e2]) rfl
    refine M_istore (pc := 22) C dX8_deletes_22 (by decide) ?_
    refine M_iload_n (pc := 24) C dX8_deletes_24 rfl ?_
    refine M_aload_n (pc := 25) C dX8_deletes_25 rfl (by decide) ?_
    refine A_getR (pc := 26) C fl_X8_7 rfl (a := 84) (j := 85) rfl (tt_84 hT) rfl dX8_deletes_26 ?_
    refine M_iconst (pc := 29) C dX8_deletes_29 ?_
    refine M_iload (pc := 30) C dX8_deletes_30 rfl ?_
    refine M_iadd (pc := 32) C dX8_deletes_32 ?_
    refine A_iald (pc := 33) C (a := 85) (q := (3 + (ro R f (6 + i)).toNat)) rfl (tt_85 hT) (by decide) (by omega) (by omega) dX8_deletes_33 (fun (r_33 : i32 ((dlN R f i) (3 + (ro R f (6 + i)).toNat))) => ?_)
    refine M.to (pc := 34) (st2 := [vI ((dlN R f i) (3 + (ro R f (6 + i)).toNat)), vI (dcN R f i)]) ?_ rfl rfl rfl
    refine M_iconst (pc := 34) C dX8_deletes_34 ?_
    refine T_icmp_ne (pc := 35) C (by omega) (by omega) dX8_deletes_35 dX8_deletes_38 dX8_deletes_39 dX8_deletes_42 ?_
    refine M_iadd (pc := 43) C dX8_deletes_43 ?_
    refine M_istore_n (pc := 44) C dX8_deletes_44 (by decide) ?_
    refine M_aload_n (pc := 45) C dX8_deletes_45 rfl (by decide) ?_
    refine A_getR (pc := 46) C fl_X8_7 rfl (a := 84) (j := 85) rfl (tt_84 hT) rfl dX8_deletes_46 ?_
    refine M_iconst (pc := 49) C dX8_deletes_49 ?_
    refine M_iload (pc := 50) C dX8_deletes_50 rfl ?_
    refine M_iadd (pc := 52) C dX8_deletes_52 ?_
    refine M_aload_n (pc := 53) C dX8_deletes_53 rfl (by decide) ?_
    refine A_getR (pc := 54) C fl_X8_7 rfl (a := 84) (j := 85) rfl (tt_84 hT) rfl dX8_deletes_54 ?_
    refine M_iconst (pc := 57) C dX8_deletes_57 ?_
    refine M_iload (pc := 58) C dX8_deletes_58 rfl ?_
    refine M_iadd (pc := 60) C dX8_deletes_60 ?_
    refine A_iald (pc := 61) C (a := 85) (q := (3 + (ro R f (6 + i)).toNat)) rfl (tt_85 hT) (by decide) (by omega) (by omega) dX8_deletes_61 (fun (r_61 : i32 ((dlN R f i) (3 + (ro R f (6 + i)).toNat))) => ?_)
    refine M.to (pc := 62) (st2 := [vI ((dlN R f i) (3 + (ro R f (6 + i)).toNat)), vI (3 + (ro R f (6 + i))), vR 85]) ?_ rfl rfl rfl
    refine M_iconst (pc := 62) C dX8_deletes_62 ?_
    refine M_icmp_ne (pc := 63) C (tgt := 70) (by omega) (by omega) dX8_deletes_63 (by decide) (fun h_63 => ?_) (fun h_63 => ?_)
    · refine M_aload_n (pc := 70) C dX8_deletes_70 rfl (by decide) ?_
      refine A_getR (pc := 71) C fl_X8_7 rfl (a := 84) (j := 85) rfl (tt_84 hT) rfl dX8_deletes_71 ?_
      refine M_iconst (pc := 74) C dX8_deletes_74 ?_
      refine M_iload (pc := 75) C dX8_deletes_75 rfl ?_
      refine M_iadd (pc := 77) C dX8_deletes_77 ?_
      refine A_iald (pc := 78) C (a := 85) (q := (3 + (ro R f (6 + i)).toNat)) rfl (tt_85 hT) (by decide) (by omega) (by omega) dX8_deletes_78 (fun (r_78 : i32 ((dlN R f i) (3 + (ro R f (6 + i)).toNat))) => ?_)
      refine M.to (pc := 79) (st2 := [vI ((dlN R f i) (3 + (ro R f (6 + i)).toNat)), vI (3 + (ro R f (6 + i))), vR 85]) ?_ rfl rfl rfl
      refine A_iast (pc := 79) C (a := 85) (q := (3 + (ro R f (6 + i)).toNat)) rfl (tt_85 hT) (by decide) (by omega) (by omega) (by omega) dX8_deletes_79 ?_
      refine M.to (pc := 80) (v2 := sa v 85 (rs (dlN R f i) (3 + (ro R f (6 + i)).toNat) ((dlN R f i) (3 + (ro R f (6 + i)).toNat)))) ?_ rfl rfl (by rw [sa_up0])
      refine M_iinc (pc := 80) C dX8_deletes_80 rfl (by decide) ?_
      refine M_goto (pc := 83) C (tgt := 4) dX8_deletes_83 (by decide) ?_
      refine M.drop [true, true, true, true, false] rfl ?_
      exact M.to (ih (by omega)) (by show _ = [some (vR 84), some (vI ((f : Nat) : Int)), some (vI (dcN R f i + Bi (decide (dlN R f i (3 + (ro R f (6 + i)).toNat) = 1)))), some (vI ((i + 1 : Nat) : Int)), none]; rfl) rfl (by show _ = sa v 85 (rs (dlN R f i) (3 + (ro R f (6 + i)).toNat) (if dlN R f i (3 + (ro R f (6 + i)).toNat) = 1 then 0 else dlN R f i (3 + (ro R f (6 + i)).toNat))); first | (rw [if_pos h_63]) | (rw [if_neg h_63]))
    · refine M_iconst (pc := 66) C dX8_deletes_66 ?_
      refine M_goto (pc := 67) C (tgt := 79) dX8_deletes_67 (by decide) ?_
      refine A_iast (pc := 79) C (a := 85) (q := (3 + (ro R f (6 + i)).toNat)) rfl (tt_85 hT) (by decide) (by omega) (by omega) (by omega) dX8_deletes_79 ?_
      refine M.to (pc := 80) (v2 := sa v 85 (rs (dlN R f i) (3 + (ro R f (6 + i)).toNat) 0)) ?_ rfl rfl (by rw [sa_up0])
      refine M_iinc (pc := 80) C dX8_deletes_80 rfl (by decide) ?_
      refine M_goto (pc := 83) C (tgt := 4) dX8_deletes_83 (by decide) ?_
      refine M.drop [true, true, true, true, false] rfl ?_
      exact M.to (ih (by omega)) (by show _ = [some (vR 84), some (vI ((f : Nat) : Int)), some (vI (dcN R f i + Bi (decide (dlN R f i (3 + (ro R f (6 + i)).toNat) = 1)))), some (vI ((i + 1 : Nat) : Int)), none]; rfl) rfl (by show _ = sa v 85 (rs (dlN R f i) (3 + (ro R f (6 + i)).toNat) (if dlN R f i (3 + (ro R f (6 + i)).toNat) = 1 then 0 else dlN R f i (3 + (ro R f (6 + i)).toNat))); first | (rw [if_pos h_63]) | (rw [if_neg h_63]))
