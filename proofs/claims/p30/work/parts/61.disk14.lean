theorem c_X1_solveSet {N : Nat} {T : Ty} {SB SL : Nat → Int} {s : Nat} {v : Ct} (hT : TT T) (hs : 0 < s ∧ s < 1024) (hB : ∀ q, q < s → 0 ≤ SB q ∧ SB q ≤ 11) (hS : ∀ q, q < s → 0 ≤ SL q ∧ SL q ≤ 16) (hL : ∀ k, k < 10 → s / 2 ^ k % 2 = 1 → 0 ≤ v 80 k ∧ v 80 k < 16) : Runs mX1_solveSet 0 0 0 [vR 77, vI ((s : Nat) : Int)] N T (sa (sa v 82 SB) 83 SL) none N T (sa (sa v 82 (rs SB s (soP SB SL (v 80) s 10).1)) 83 (rs SL s (soP SB SL (v 80) s 10).2)) := by
  refine Runs.of (by decide) (Nat.le_of_ble_eq_true rfl) fun κ C => ?_
  refine M_iload_n (pc := 0) C dX1_solveSet_0 rfl ?_
  refine M_if_le (pc := 1) C (tgt := 11) (by omega) dX1_solveSet_1 (by decide) (fun h_1 => ?_) (fun h_1 => ?_)
  · exfalso
    omega
  · refine M_iload_n (pc := 4) C dX1_solveSet_4 rfl ?_
    refine M_sipush (pc := 5) C (by decide) dX1_solveSet_5 ?_
    refine M_icmp_lt (pc := 8) C (tgt := 12) (by omega) (by omega) dX1_solveSet_8 (by decide) (fun h_8 => ?_) (fun h_8 => ?_)
    · refine M_aload_n (pc := 12) C dX1_solveSet_12 rfl (by decide) ?_
      refine A_getR (pc := 13) C fl_X1_22 rfl (a := 77) (j := 82) rfl (tt_77 hT) rfl dX1_solveSet_13 ?_
      refine M_iload_n (pc := 16) C dX1_solveSet_16 rfl ?_
      refine M_bipush (pc := 17) C (by decide) dX1_solveSet_17 ?_
      refine A_iast (pc := 19) C (a := 82) (q := s) rfl (tt_82 hT) (by decide) rfl (by omega) (by omega) dX1_solveSet_19 ?_
      refine M.to (pc := 20) (v2 := sa (sa v 82 (rs SB s 11)) 83 SL) ?_ rfl rfl (by rw [sa_up1 (by decide), sa_up0])
      refine M_aload_n (pc := 20) C dX1_solveSet_20 rfl (by decide) ?_
      refine A_getR (pc := 21) C fl_X1_25 rfl (a := 77) (j := 83) rfl (tt_77 hT) rfl dX1_solveSet_21 ?_
      refine M_iload_n (pc := 24) C dX1_solveSet_24 rfl ?_
      refine M_bipush (pc := 25) C (by decide) dX1_solveSet_25 ?_
      refine A_iast (pc := 27) C (a := 83) (q := s) rfl (tt_83 hT) (by decide) rfl (by omega) (by omega) dX1_solveSet_27 ?_
      refine M.to (pc := 28) (v2 := sa (sa v 82 (rs SB s 11)) 83 (rs SL s 16)) ?_ rfl rfl (by rw [sa_up0])
      refine M_iconst (pc := 28) C dX1_solveSet_28 ?_
      refine M_istore_n (pc := 29) C dX1_solveSet_29 (by decide) ?_
      refine loop_le (P := fun k => M κ N T 30 [some (vR 77), some (vI ((s : Nat) : Int)), some (vI ((k : Nat) : Int)), none, none, none, none] [] (sa (sa v 82 (rs SB s (soP SB SL (v 80) s k).1)) 83 (rs SL s (soP SB SL (v 80) s k).2)) 0 0 (QR κ none N T (sa (sa v 82 (rs SB s (soP SB SL (v 80) s 10).1)) 83 (rs SL s (soP SB SL (v 80) s 10).2)) 0 0)) 10 (fun k hk ih => ?_)
      have hpk : 0 < 2 ^ k := Nat.two_pow_pos k
      have hbd := soP_bd (SB := SB) (SL := SL) (Lg := v 80) hB hS hL k hk
      refine M_iload_n (pc := 30) C dX1_solveSet_30 rfl ?_
      refine M_bipush (pc := 31) C (by decide) dX1_solveSet_31 ?_
      refine M_icmp_ge (pc := 33) C (tgt := 193) (by omega) (by omega) dX1_solveSet_33 (by decide) (fun h_33 => ?_) (fun h_33 => ?_)
      · have hk10 : k = 10 := by omega
        exact M_vret (pc := 193) C rfl dX1_solveSet_193 (by rw [hk10]) rfl
      · refine M_iload_n (pc := 36) C dX1_solveSet_36 rfl ?_
        refine M_iload_n (pc := 37) C dX1_solveSet_37 rfl ?_
        refine M_ishr (pc := 38) C (by omega) (by omega) dX1_solveSet_38 ?_
        refine M_iconst (pc := 39) C dX1_solveSet_39 ?_
        refine M_imask (pc := 40) C 1 (by decide) (by decide) dX1_solveSet_40 ?_
        refine M_iconst (pc := 41) C dX1_solveSet_41 ?_
        refine M.to (st2 := [vI 1, vI ((s / 2 ^ k % 2 : Nat) : Int)]) ?_ rfl (by rw [Int.toNat_natCast]; push_cast; rfl) rfl
        refine M_icmp_ne (pc := 42) C (tgt := 187) (by omega) (by omega) dX1_solveSet_42 (by decide) (fun h_42 => ?_) (fun h_42 => ?_)
        · have hbit : ¬ s / 2 ^ k % 2 = 1 := by omega
          have hE : soP SB SL (v 80) s (k + 1) = soP SB SL (v 80) s k := soP_n hbit
          refine M_iinc (pc := 187) C dX1_solveSet_187 rfl (by decide) ?_
          refine M_goto (pc := 190) C (tgt := 30) dX1_solveSet_190 (by decide) ?_
          exact M.to (ih (by omega)) rfl rfl (by first | (rw [hE, rs_rs, rs_rs]; done) | (rw [hE]; done))
        · have hbit : s / 2 ^ k % 2 = 1 := by omega
          have hle := bit_le hbit
          obtain ⟨r, hr⟩ : ∃ r, r = s - 2 ^ k := ⟨_, rfl⟩
          have hrs : r < s := by omega
          have hBr := hB r hrs
          have hSr := hS r hrs
          have hLk := hL k (by omega) hbit
          refine M_iload_n (pc := 45) C dX1_solveSet_45 rfl ?_
          refine M_iconst (pc := 46) C dX1_solveSet_46 ?_
          refine M_iload_n (pc := 47) C dX1_solveSet_47 rfl ?_
          refine M_ishl (pc := 48) C (by omega) dX1_solveSet_48 ?_
          refine M_isub (pc := 49) C dX1_solveSet_49 ?_
          refine M.to (st2 := [vI ((r : Nat) : Int)]) ?_ rfl (by rw [hr, Int.one_mul, Int.toNat_natCast, show ((s : Nat) : Int) - 2 ^ k = ((s - 2 ^ k : Nat) : Int) by rw [show ((2 : Int) ^ k) = ((2 ^ k : Nat) : Int) by push_cast; rfl]; omega]) rfl
          refine M_istore_n (pc := 50) C dX1_solveSet_50 (by decide) ?_
          refine M_aload_n (pc := 51) C dX1_solveSet_51 rfl (by decide) ?_
          refine A_getR (pc := 52) C fl_X1_25 rfl (a := 77) (j := 83) rfl (tt_77 hT) rfl dX1_solveSet_52 ?_
          refine M_iload_n (pc := 55) C dX1_solveSet_55 rfl ?_
          refine A_iald (pc := 56) C (a := 83) (q := r) rfl (tt_83 hT) (by decide) rfl (by omega) dX1_solveSet_56 (fun (r_56 : i32 ((rs SL s (soP SB SL (v 80) s k).2) r)) => ?_)
          refine M.to (pc := 57) (st2 := [vI ((rs SL s (soP SB SL (v 80) s k).2) r)]) ?_ rfl rfl rfl
          refine M.to (st2 := [vI (SL r)]) ?_ rfl (by rw [rs_ne (by omega)]) rfl
          refine M_aload_n (pc := 57) C dX1_solveSet_57 rfl (by decide) ?_
          refine A_getR (pc := 58) C fl_X1_12 rfl (a := 77) (j := 78) rfl (tt_77 hT) rfl dX1_solveSet_58 ?_
          refine A_getR (pc := 61) C fl_X1_40 rfl (a := 78) (j := 80) rfl (tt_78 hT) rfl dX1_solveSet_61 ?_
          refine M_iload_n (pc := 64) C dX1_solveSet_64 rfl ?_
          refine A_iald (pc := 65) C (a := 80) (q := k) rfl (tt_80 hT) (by decide) rfl (by omega) dX1_solveSet_65 (fun (r_65 : i32 (v 80 k)) => ?_)
          refine M.to (pc := 66) (st2 := [vI (v 80 k), vI (SL r)]) ?_ rfl rfl rfl
          refine M_iadd (pc := 66) C dX1_solveSet_66 ?_
          refine M_bipush (pc := 67) C (by decide) dX1_solveSet_67 ?_
          refine M_icmp_gt (pc := 69) C (tgt := 76) (by omega) (by omega) dX1_solveSet_69 (by decide) (fun h_69 => ?_) (fun h_69 => ?_)
          · have eb : soB SB SL (v 80) r k = SB r + 1 := if_neg (by omega)
            have el : soL SL (v 80) r k = v 80 k := if_neg (by omega)
            refine M_iconst (pc := 76) C dX1_solveSet_76 ?_
            refine M_istore (pc := 77) C dX1_solveSet_77 (by decide) ?_
            refine M_iload (pc := 79) C dX1_solveSet_79 rfl ?_
            refine M_if_eq (pc := 81) C (tgt := 93) (by decide) dX1_solveSet_81 (by decide) (fun _ => ?_) (fun h => absurd h (by decide))
            refine M_aload_n (pc := 93) C dX1_solveSet_93 rfl (by decide) ?_
            refine A_getR (pc := 94) C fl_X1_22 rfl (a := 77) (j := 82) rfl (tt_77 hT) rfl dX1_solveSet_94 ?_
            refine M_iload_n (pc := 97) C dX1_solveSet_97 rfl ?_
            refine A_iald (pc := 98) C (a := 82) (q := r) rfl (tt_82 hT) (by decide) rfl (by omega) dX1_solveSet_98 (fun (r_98 : i32 ((rs SB s (soP SB SL (v 80) s k).1) r)) => ?_)
            refine M.to (pc := 99) (st2 := [vI ((rs SB s (soP SB SL (v 80) s k).1) r)]) ?_ rfl rfl rfl
            refine M.to (st2 := [vI (SB r)]) ?_ rfl (by rw [rs_ne (by omega)]) rfl
            refine M_iconst (pc := 99) C dX1_solveSet_99 ?_
            refine M_iadd (pc := 100) C dX1_solveSet_100 ?_
            refine M_istore (pc := 101) C dX1_solveSet_101 (by decide) ?_
            refine M_iload (pc := 103) C dX1_solveSet_103 rfl ?_
            refine M_if_eq (pc := 105) C (tgt := 127) (by decide) dX1_solveSet_105 (by decide) (fun _ => ?_) (fun h => absurd h (by decide))
            refine M_aload_n (pc := 127) C dX1_solveSet_127 rfl (by decide) ?_
            refine A_getR (pc := 128) C fl_X1_12 rfl (a := 77) (j := 78) rfl (tt_77 hT) rfl dX1_solveSet_128 ?_
            refine A_getR (pc := 131) C fl_X1_40 rfl (a := 78) (j := 80) rfl (tt_78 hT) rfl dX1_solveSet_131 ?_
            refine M_iload_n (pc := 134) C dX1_solveSet_134 rfl ?_
            refine A_iald (pc := 135) C (a := 80) (q := k) rfl (tt_80 hT) (by decide) rfl (by omega) dX1_solveSet_135 (fun (r_135 : i32 (v 80 k)) => ?_)
            refine M.to (pc := 136) (st2 := [vI (v 80 k)]) ?_ rfl rfl rfl
            refine M_istore (pc := 136) C dX1_solveSet_136 (by decide) ?_
            refine M_iload (pc := 138) C dX1_solveSet_138 rfl ?_
            refine M_aload_n (pc := 140) C dX1_solveSet_140 rfl (by decide) ?_
            refine A_getR (pc := 141) C fl_X1_22 rfl (a := 77) (j := 82) rfl (tt_77 hT) rfl dX1_solveSet_141 ?_
            refine M_iload_n (pc := 144) C dX1_solveSet_144 rfl ?_
            refine A_iald (pc := 145) C (a := 82) (q := s) rfl (tt_82 hT) (by decide) rfl (by omega) dX1_solveSet_145 (fun (r_145 : i32 ((rs SB s (soP SB SL (v 80) s k).1) s)) => ?_)
            refine M.to (pc := 146) (st2 := [vI ((rs SB s (soP SB SL (v 80) s k).1) s), vI ((SB r) + 1)]) ?_ rfl rfl rfl
            have ro1 : (rs SB s (soP SB SL (v 80) s k).1) s = (soP SB SL (v 80) s k).1 := rs_eq _ _ _
            refine M_icmp_lt (pc := 146) C (tgt := 171) (by omega) (by omega) dX1_solveSet_146 (by decide) (fun h_146 => ?_) (fun h_146 => ?_)
            · have hE : soP SB SL (v 80) s (k + 1) = (soB SB SL (v 80) r k, soL SL (v 80) r k) := by rw [soP_w hbit (by rw [← hr, eb, el]; omega), ← hr]
              rw [eb, el] at hE
              refine M_aload_n (pc := 171) C dX1_solveSet_171 rfl (by decide) ?_
              refine A_getR (pc := 172) C fl_X1_22 rfl (a := 77) (j := 82) rfl (tt_77 hT) rfl dX1_solveSet_172 ?_
              refine M_iload_n (pc := 175) C dX1_solveSet_175 rfl ?_
              refine M_iload (pc := 176) C dX1_solveSet_176 rfl ?_
              refine A_iast (pc := 178) C (a := 82) (q := s) rfl (tt_82 hT) (by decide) rfl (by omega) (by omega) dX1_solveSet_178 ?_
              refine M.to (pc := 179) (v2 := sa (sa v 82 (rs (rs SB s (soP SB SL (v 80) s k).1) s ((SB r) + 1))) 83 (rs SL s (soP SB SL (v 80) s k).2)) ?_ rfl rfl (by rw [sa_up1 (by decide), sa_up0])
              refine M_aload_n (pc := 179) C dX1_solveSet_179 rfl (by decide) ?_
              refine A_getR (pc := 180) C fl_X1_25 rfl (a := 77) (j := 83) rfl (tt_77 hT) rfl dX1_solveSet_180 ?_
              refine M_iload_n (pc := 183) C dX1_solveSet_183 rfl ?_
              refine M_iload (pc := 184) C dX1_solveSet_184 rfl ?_
              refine A_iast (pc := 186) C (a := 83) (q := s) rfl (tt_83 hT) (by decide) rfl (by omega) (by omega) dX1_solveSet_186 ?_
              refine M.to (pc := 187) (v2 := sa (sa v 82 (rs (rs SB s (soP SB SL (v 80) s k).1) s ((SB r) + 1))) 83 (rs (rs SL s (soP SB SL (v 80) s k).2) s (v 80 k))) ?_ rfl rfl (by rw [sa_up0])
              refine M_iinc (pc := 187) C dX1_solveSet_187 rfl (by decide) ?_
              refine M_goto (pc := 190) C (tgt := 30) dX1_solveSet_190 (by decide) ?_
              refine M.drop [true, true, true, false, false, false, false] rfl ?_
              exact M.to (ih (by omega)) rfl rfl (by first | (rw [hE, rs_rs, rs_rs]; done) | (rw [hE]; done))
            · refine M_iload (pc := 149) C dX1_solveSet_149 rfl ?_
              refine M_aload_n (pc := 151) C dX1_solveSet_151 rfl (by decide) ?_
              refine A_getR (pc := 152) C fl_X1_22 rfl (a := 77) (j := 82) rfl (tt_77 hT) rfl dX1_solveSet_152 ?_
              refine M_iload_n (pc := 155) C dX1_solveSet_155 rfl ?_
              refine A_iald (pc := 156) C (a := 82) (q := s) rfl (tt_82 hT) (by decide) rfl (by omega) dX1_solveSet_156 (fun (r_156 : i32 ((rs SB s (soP SB SL (v 80) s k).1) s)) => ?_)
              refine M.to (pc := 157) (st2 := [vI ((rs SB s (soP SB SL (v 80) s k).1) s), vI ((SB r) + 1)]) ?_ rfl rfl rfl
              refine M_icmp_ne (pc := 157) C (tgt := 187) (by omega) (by omega) dX1_solveSet_157 (by decide) (fun h_157 => ?_) (fun h_157 => ?_)
              · have hE : soP SB SL (v 80) s (k + 1) = soP SB SL (v 80) s k := soP_k hbit (by rw [← hr, eb, el]; omega)
                refine M_iinc (pc := 187) C dX1_solveSet_187 rfl (by decide) ?_
                refine M_goto (pc := 190) C (tgt := 30) dX1_solveSet_190 (by decide) ?_
                refine M.drop [true, true, true, false, false, false, false] rfl ?_
                exact M.to (ih (by omega)) rfl rfl (by first | (rw [hE, rs_rs, rs_rs]; done) | (rw [hE]; done))
              · refine M_iload (pc := 160) C dX1_solveSet_160 rfl ?_
                refine M_aload_n (pc := 162) C dX1_solveSet_162 rfl (by decide) ?_
                refine A_getR (pc := 163) C fl_X1_25 rfl (a := 77) (j := 83) rfl (tt_77 hT) rfl dX1_solveSet_163 ?_
                refine M_iload_n (pc := 166) C dX1_solveSet_166 rfl ?_
                refine A_iald (pc := 167) C (a := 83) (q := s) rfl (tt_83 hT) (by decide) rfl (by omega) dX1_solveSet_167 (fun (r_167 : i32 ((rs SL s (soP SB SL (v 80) s k).2) s)) => ?_)
                refine M.to (pc := 168) (st2 := [vI ((rs SL s (soP SB SL (v 80) s k).2) s), vI (v 80 k)]) ?_ rfl rfl rfl
                have ro2 : (rs SL s (soP SB SL (v 80) s k).2) s = (soP SB SL (v 80) s k).2 := rs_eq _ _ _
                refine M_icmp_ge (pc := 168) C (tgt := 187) (by omega) (by omega) dX1_solveSet_168 (by decide) (fun h_168 => ?_) (fun h_168 => ?_)
                · have hE : soP SB SL (v 80) s (k + 1) = soP SB SL (v 80) s k := soP_k hbit (by rw [← hr, eb, el]; omega)
                  refine M_iinc (pc := 187) C dX1_solveSet_187 rfl (by decide) ?_
                  refine M_goto (pc := 190) C (tgt := 30) dX1_solveSet_190 (by decide) ?_
                  refine M.drop [true, true, true, false, false, false, false] rfl ?_
                  exact M.to (ih (by omega)) rfl rfl (by first | (rw [hE, rs_rs, rs_rs]; done) | (rw [hE]; done))
                · have hE : soP SB SL (v 80) s (k + 1) = (soB SB SL (v 80) r k, soL SL (v 80) r k) := by rw [soP_w hbit (by rw [← hr, eb, el]; omega), ← hr]
                  rw [eb, el] at hE
                  refine M_aload_n (pc := 171) C dX1_solveSet_171 rfl (by decide) ?_
                  refine A_getR (pc := 172) C fl_X1_22 rfl (a := 77) (j := 82) rfl (tt_77 hT) rfl dX1_solveSet_172 ?_
                  refine M_iload_n (pc := 175) C dX1_solveSet_175 rfl ?_
                  refine M_iload (pc := 176) C dX1_solveSet_176 rfl ?_
                  refine A_iast (pc := 178) C (a := 82) (q := s) rfl (tt_82 hT) (by decide) rfl (by omega) (by omega) dX1_solveSet_178 ?_
                  refine M.to (pc := 179) (v2 := sa (sa v 82 (rs (rs SB s (soP SB SL (v 80) s k).1) s ((SB r) + 1))) 83 (rs SL s (soP SB SL (v 80) s k).2)) ?_ rfl rfl (by rw [sa_up1 (by decide), sa_up0])
                  refine M_aload_n (pc := 179) C dX1_solveSet_179 rfl (by decide) ?_
                  refine A_getR (pc := 180) C fl_X1_25 rfl (a := 77) (j := 83) rfl (tt_77 hT) rfl dX1_solveSet_180 ?_
                  refine M_iload_n (pc := 183) C dX1_solveSet_183 rfl ?_
                  refine M_iload (pc := 184) C dX1_solveSet_184 rfl ?_
                  refine A_iast (pc := 186) C (a := 83) (q := s) rfl (tt_83 hT) (by decide) rfl (by omega) (by omega) dX1_solveSet_186 ?_
                  refine M.to (pc := 187) (v2 := sa (sa v 82 (rs (rs SB s (soP SB SL (v 80) s k).1) s ((SB r) + 1))) 83 (rs (rs SL s (soP SB SL (v 80) s k).2) s (v 80 k))) ?_ rfl rfl (by rw [sa_up0])
                  refine M_iinc (pc := 187) C dX1_solveSet_187 rfl (by decide) ?_
                  refine M_goto (pc := 190) C (tgt := 30) dX1_solveSet_190 (by decide) ?_
                  refine M.drop [true, true, true, false, false, false, false] rfl ?_
                  exact M.to (ih (by omega)) rfl rfl (by first | (rw [hE, rs_rs, rs_rs]; done) | (rw [hE]; done))
          · have eb : soB SB SL (v 80) r k = SB r := if_pos (by omega)
            have el : soL SL (v 80) r k = SL r + v 80 k := if_pos (by omega)
            refine M_iconst (pc := 72) C dX1_solveSet_72 ?_
            refine M_goto (pc := 73) C (tgt := 77) dX1_solveSet_73 (by decide) ?_
            refine M_istore (pc := 77) C dX1_solveSet_77 (by decide) ?_
            refine M_iload (pc := 79) C dX1_solveSet_79 rfl ?_
            refine M_if_eq (pc := 81) C (tgt := 93) (by decide) dX1_solveSet_81 (by decide) (fun h => absurd h (by decide)) (fun _ => ?_)
            refine M_aload_n (pc := 84) C dX1_solveSet_84 rfl (by decide) ?_
            refine A_getR (pc := 85) C fl_X1_22 rfl (a := 77) (j := 82) rfl (tt_77 hT) rfl dX1_solveSet_85 ?_
            refine M_iload_n (pc := 88) C dX1_solveSet_88 rfl ?_
            refine A_iald (pc := 89) C (a := 82) (q := r) rfl (tt_82 hT) (by decide) rfl (by omega) dX1_solveSet_89 (fun (r_89 : i32 ((rs SB s (soP SB SL (v 80) s k).1) r)) => ?_)
            refine M.to (pc := 90) (st2 := [vI ((rs SB s (soP SB SL (v 80) s k).1) r)]) ?_ rfl rfl rfl
            refine M.to (st2 := [vI (SB r)]) ?_ rfl (by rw [rs_ne (by omega)]) rfl
            refine M_goto (pc := 90) C (tgt := 101) dX1_solveSet_90 (by decide) ?_
            refine M_istore (pc := 101) C dX1_solveSet_101 (by decide) ?_
            refine M_iload (pc := 103) C dX1_solveSet_103 rfl ?_
            refine M_if_eq (pc := 105) C (tgt := 127) (by decide) dX1_solveSet_105 (by decide) (fun h => absurd h (by decide)) (fun _ => ?_)
            refine M_aload_n (pc := 108) C dX1_solveSet_108 rfl (by decide) ?_
            refine A_getR (pc := 109) C fl_X1_25 rfl (a := 77) (j := 83) rfl (tt_77 hT) rfl dX1_solveSet_109 ?_
            refine M_iload_n (pc := 112) C dX1_solveSet_112 rfl ?_
            refine A_iald (pc := 113) C (a := 83) (q := r) rfl (tt_83 hT) (by decide) rfl (by omega) dX1_solveSet_113 (fun (r_113 : i32 ((rs SL s (soP SB SL (v 80) s k).2) r)) => ?_)
            refine M.to (pc := 114) (st2 := [vI ((rs SL s (soP SB SL (v 80) s k).2) r)]) ?_ rfl rfl rfl
            refine M.to (st2 := [vI (SL r)]) ?_ rfl (by rw [rs_ne (by omega)]) rfl
            refine M_aload_n (pc := 114) C dX1_solveSet_114 rfl (by decide) ?_
            refine A_getR (pc := 115) C fl_X1_12 rfl (a := 77) (j := 78) rfl (tt_77 hT) rfl dX1_solveSet_115 ?_
            refine A_getR (pc := 118) C fl_X1_40 rfl (a := 78) (j := 80) rfl (tt_78 hT) rfl dX1_solveSet_118 ?_
            refine M_iload_n (pc := 121) C dX1_solveSet_121 rfl ?_
            refine A_iald (pc := 122) C (a := 80) (q := k) rfl (tt_80 hT) (by decide) rfl (by omega) dX1_solveSet_122 (fun (r_122 : i32 (v 80 k)) => ?_)
            refine M.to (pc := 123) (st2 := [vI (v 80 k), vI (SL r)]) ?_ rfl rfl rfl
            refine M_iadd (pc := 123) C dX1_solveSet_123 ?_
            refine M_goto (pc := 124) C (tgt := 136) dX1_solveSet_124 (by decide) ?_
            refine M_istore (pc := 136) C dX1_solveSet_136 (by decide) ?_
            refine M_iload (pc := 138) C dX1_solveSet_138 rfl ?_
            refine M_aload_n (pc := 140) C dX1_solveSet_140 rfl (by decide) ?_
            refine A_getR (pc := 141) C fl_X1_22 rfl (a := 77) (j := 82) rfl (tt_77 hT) rfl dX1_solveSet_141 ?_
            refine M_iload_n (pc := 144) C dX1_solveSet_144 rfl ?_
            refine A_iald (pc := 145) C (a := 82) (q := s) rfl (tt_82 hT) (by decide) rfl (by omega) dX1_solveSet_145 (fun (r_145 : i32 ((rs SB s (soP SB SL (v 80) s k).1) s)) => ?_)
            refine M.to (pc := 146) (st2 := [vI ((rs SB s (soP SB SL (v 80) s k).1) s), vI (SB r)]) ?_ rfl rfl rfl
            have ro1 : (rs SB s (soP SB SL (v 80) s k).1) s = (soP SB SL (v 80) s k).1 := rs_eq _ _ _
            refine M_icmp_lt (pc := 146) C (tgt := 171) (by omega) (by omega) dX1_solveSet_146 (by decide) (fun h_146 => ?_) (fun h_146 => ?_)
            · have hE : soP SB SL (v 80) s (k + 1) = (soB SB SL (v 80) r k, soL SL (v 80) r k) := by rw [soP_w hbit (by rw [← hr, eb, el]; omega), ← hr]
              rw [eb, el] at hE
              refine M_aload_n (pc := 171) C dX1_solveSet_171 rfl (by decide) ?_
              refine A_getR (pc := 172) C fl_X1_22 rfl (a := 77) (j := 82) rfl (tt_77 hT) rfl dX1_solveSet_172 ?_
              refine M_iload_n (pc := 175) C dX1_solveSet_175 rfl ?_
              refine M_iload (pc := 176) C dX1_solveSet_176 rfl ?_
              refine A_iast (pc := 178) C (a := 82) (q := s) rfl (tt_82 hT) (by decide) rfl (by omega) (by omega) dX1_solveSet_178 ?_
              refine M.to (pc := 179) (v2 := sa (sa v 82 (rs (rs SB s (soP SB SL (v 80) s k).1) s (SB r))) 83 (rs SL s (soP SB SL (v 80) s k).2)) ?_ rfl rfl (by rw [sa_up1 (by decide), sa_up0])
              refine M_aload_n (pc := 179) C dX1_solveSet_179 rfl (by decide) ?_
              refine A_getR (pc := 180) C fl_X1_25 rfl (a := 77) (j := 83) rfl (tt_77 hT) rfl dX1_solveSet_180 ?_
              refine M_iload_n (pc := 183) C dX1_solveSet_183 rfl ?_
              refine M_iload (pc := 184) C dX1_solveSet_184 rfl ?_
              refine A_iast (pc := 186) C (a := 83) (q := s) rfl (tt_83 hT) (by decide) rfl (by omega) (by omega) dX1_solveSet_186 ?_
              refine M.to (pc := 187) (v2 := sa (sa v 82 (rs (rs SB s (soP SB SL (v 80) s k).1) s (SB r))) 83 (rs (rs SL s (soP SB SL (v 80) s k).2) s ((SL r) + (v 80 k)))) ?_ rfl rfl (by rw [sa_up0])
              refine M_iinc (pc := 187) C dX1_solveSet_187 rfl (by decide) ?_
              refine M_goto (pc := 190) C (tgt := 30) dX1_solveSet_190 (by decide) ?_
              refine M.drop [true, true, true, false, false, false, false] rfl ?_
              exact M.to (ih (by omega)) rfl rfl (by first | (rw [hE, rs_rs, rs_rs]; done) | (rw [hE]; done))
            · refine M_iload (pc := 149) C dX1_solveSet_149 rfl ?_
              refine M_aload_n (pc := 151) C dX1_solveSet_151 rfl (by decide) ?_
              refine A_getR (pc := 152) C fl_X1_22 rfl (a := 77) (j := 82) rfl (tt_77 hT) rfl dX1_solveSet_152 ?_
              refine M_iload_n (pc := 155) C dX1_solveSet_155 rfl ?_
              refine A_iald (pc := 156) C (a := 82) (q := s) rfl (tt_82 hT) (by decide) rfl (by omega) dX1_solveSet_156 (fun (r_156 : i32 ((rs SB s (soP SB SL (v 80) s k).1) s)) => ?_)
              refine M.to (pc := 157) (st2 := [vI ((rs SB s (soP SB SL (v 80) s k).1) s), vI (SB r)]) ?_ rfl rfl rfl
              refine M_icmp_ne (pc := 157) C (tgt := 187) (by omega) (by omega) dX1_solveSet_157 (by decide) (fun h_157 => ?_) (fun h_157 => ?_)
              · have hE : soP SB SL (v 80) s (k + 1) = soP SB SL (v 80) s k := soP_k hbit (by rw [← hr, eb, el]; omega)
                refine M_iinc (pc := 187) C dX1_solveSet_187 rfl (by decide) ?_
                refine M_goto (pc := 190) C (tgt := 30) dX1_solveSet_190 (by decide) ?_
                refine M.drop [true, true, true, false, false, false, false] rfl ?_
                exact M.to (ih (by omega)) rfl rfl (by first | (rw [hE, rs_rs, rs_rs]; done) | (rw [hE]; done))
              · refine M_iload (pc := 160) C dX1_solveSet_160 rfl ?_
                refine M_aload_n (pc := 162) C dX1_solveSet_162 rfl (by decide) ?_
                refine A_getR (pc := 163) C fl_X1_25 rfl (a := 77) (j := 83) rfl (tt_77 hT) rfl dX1_solveSet_163 ?_
                refine M_iload_n (pc := 166) C dX1_solveSet_166 rfl ?_
                refine A_iald (pc := 167) C (a := 83) (q := s) rfl (tt_83 hT) (by decide) rfl (by omega) dX1_solveSet_167 (fun (r_167 : i32 ((rs SL s (soP SB SL (v 80) s k).2) s)) => ?_)
                refine M.to (pc := 168) (st2 := [vI ((rs SL s (soP SB SL (v 80) s k).2) s), vI ((SL r) + (v 80 k))]) ?_ rfl rfl rfl
                have ro2 : (rs SL s (soP SB SL (v 80) s k).2) s = (soP SB SL (v 80) s k).2 := rs_eq _ _ _
                refine M_icmp_ge (pc := 168) C (tgt := 187) (by omega) (by omega) dX1_solveSet_168 (by decide) (fun h_168 => ?_) (fun h_168 => ?_)
                · have hE : soP SB SL (v 80) s (k + 1) = soP SB SL (v 80) s k := soP_k hbit (by rw [← hr, eb, el]; omega)
                  refine M_iinc (pc := 187) C dX1_solveSet_187 rfl (by decide) ?_
                  refine M_goto (pc := 190) C (tgt := 30) dX1_solveSet_190 (by decide) ?_
                  refine M.drop [true, true, true, false, false, false, false] rfl ?_
                  exact M.to (ih (by omega)) rfl rfl (by first | (rw [hE, rs_rs, rs_rs]; done) | (rw [hE]; done))
                · have hE : soP SB SL (v 80) s (k + 1) = (soB SB SL (v 80) r k, soL SL (v 80) r k) := by rw [soP_w hbit (by rw [← hr, eb, el]; omega), ← hr]
                  rw [eb, el] at hE
                  refine M_aload_n (pc := 171) C dX1_solveSet_171 rfl (by decide) ?_
                  refine A_getR (pc := 172) C fl_X1_22 rfl (a := 77) (j := 82) rfl (tt_77 hT) rfl dX1_solveSet_172 ?_
                  refine M_iload_n (pc := 175) C dX1_solveSet_175 rfl ?_
                  refine M_iload (pc := 176) C dX1_solveSet_176 rfl ?_
                  refine A_iast (pc := 178) C (a := 82) (q := s) rfl (tt_82 hT) (by decide) rfl (by omega) (by omega) dX1_solveSet_178 ?_
                  refine M.to (pc := 179) (v2 := sa (sa v 82 (rs (rs SB s (soP SB SL (v 80) s k).1) s (SB r))) 83 (rs SL s (soP SB SL (v 80) s k).2)) ?_ rfl rfl (by rw [sa_up1 (by decide), sa_up0])
                  refine M_aload_n (pc := 179) C dX1_solveSet_179 rfl (by decide) ?_
                  refine A_getR (pc := 180) C fl_X1_25 rfl (a := 77) (j := 83) rfl (tt_77 hT) rfl dX1_solveSet_180 ?_
                  refine M_iload_n (pc := 183) C dX1_solveSet_183 rfl ?_
                  refine M_iload (pc := 184) C dX1_solveSet_184 rfl ?_
                  refine A_iast (pc := 186) C (a := 83) (q := s) rfl (tt_83 hT) (by decide) rfl (by omega) (by omega) dX1_solveSet_186 ?_
                  refine M.to (pc := 187) (v2 := sa (sa v 82 (rs (rs SB s (soP SB SL (v 80) s k).1) s (SB r))) 83 (rs (rs SL s (soP SB SL (v 80) s k).2) s ((SL r) + (v 80 k)))) ?_ rfl rfl (by rw [sa_up0])
                  refine M_iinc (pc := 187) C dX1_solveSet_187 rfl (by decide) ?_
                  refine M_goto (pc := 190) C (tgt := 30) dX1_solveSet_190 (by decide) ?_
                  refine M.drop [true, true, true, false, false, false, false] rfl ?_
                  exact M.to (ih (by omega)) rfl rfl (by first | (rw [hE, rs_rs, rs_rs]; done) | (rw [hE]; done))
    · exfalso
      omega
