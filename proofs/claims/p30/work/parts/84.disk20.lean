theorem c_X0_copyFrom {N : Nat} {T : Ty} {a b : Nat} {v : Ct} (hT : TT T) (hA : dsk T a) (hB : dsk T b) (hab : a + 9 ≤ b ∨ b + 9 ≤ a) : Runs mX0_copyFrom 0 0 0 [vR ((a : Nat) : Int), vR ((b : Nat) : Int)] N T v none N T (cpd v a b 24 10 true) := by
  refine Runs.of (by decide) (Nat.le_of_ble_eq_true rfl) fun κ C => ?_
  refine M_aload_n (pc := 0) C dX0_copyFrom_0 rfl (by omega) ?_
  refine M_ifnonnull (pc := 1) C (tgt := 5) (by omega) dX0_copyFrom_1 (by decide) (fun h_1 => ?_) (fun h_1 => ?_)
  · refine M.to (v2 := cpd v a b 0 0 false) ?_ rfl rfl (by rw [cpd_0])
    refine M_iconst (pc := 5) C dX0_copyFrom_5 ?_
    refine M_istore_n (pc := 6) C dX0_copyFrom_6 (by decide) ?_
    refine loop_le (P := fun i => M κ N T 7 [some (vR ((a : Nat) : Int)), some (vR ((b : Nat) : Int)), some (vI ((i : Nat) : Int))] [] (cpd v a b i 0 false) 0 0 (QR κ none N T (cpd v a b 24 10 true) 0 0)) 24 (fun i hi ih => ?_)
    refine M_iload_n (pc := 7) C dX0_copyFrom_7 rfl ?_
    refine M_bipush (pc := 8) C (by decide) dX0_copyFrom_8 ?_
    refine M_icmp_ge (pc := 10) C (tgt := 55) (by omega) (by omega) dX0_copyFrom_10 (by decide) (fun h_10 => ?_) (fun h_10 => ?_)
    · have hi24 : i = 24 := by omega
      refine M.to (v2 := cpd v a b 24 0 false) ?_ rfl rfl (by rw [hi24])
      refine M_iconst (pc := 55) C dX0_copyFrom_55 ?_
      refine M_istore_n (pc := 56) C dX0_copyFrom_56 (by decide) ?_
      refine loop_le (P := fun i => M κ N T 57 [some (vR ((a : Nat) : Int)), some (vR ((b : Nat) : Int)), some (vI ((i : Nat) : Int))] [] (cpd v a b 24 i false) 0 0 (QR κ none N T (cpd v a b 24 10 true) 0 0)) 10 (fun i hi ih => ?_)
      refine M_iload_n (pc := 57) C dX0_copyFrom_57 rfl ?_
      refine M_bipush (pc := 58) C (by decide) dX0_copyFrom_58 ?_
      refine M_icmp_ge (pc := 60) C (tgt := 129) (by omega) (by omega) dX0_copyFrom_60 (by decide) (fun h_60 => ?_) (fun h_60 => ?_)
      · have hi10 : i = 10 := by omega
        refine M.to (v2 := cpd v a b 24 10 false) ?_ rfl rfl (by rw [hi10])
        refine M_aload_n (pc := 129) C dX0_copyFrom_129 rfl (by omega) ?_
        refine M_aload_n (pc := 130) C dX0_copyFrom_130 rfl (by omega) ?_
        refine A_getI (pc := 131) C fl_X0_36 rfl (a := b) rfl hB.1 dX0_copyFrom_131 (fun (r_131 : i32 ((cpd v a b 24 10 false) b 8)) => ?_)
        have e_134 : (cpd v a b 24 10 false) b 8 = v b 8 := by exact cpd_b (k := 0) hab (by decide)
        rw [e_134] at r_131
        refine M.to (st2 := [vI (v b 8), vR ((a : Nat) : Int)]) ?_ rfl (by rw [e_134]) rfl
        refine A_putI (pc := 134) C fl_X0_36 rfl (by decide) (a := a) rfl hA.1 (by omega) dX0_copyFrom_134 ?_
        refine M_aload_n (pc := 137) C dX0_copyFrom_137 rfl (by omega) ?_
        refine M_aload_n (pc := 138) C dX0_copyFrom_138 rfl (by omega) ?_
        refine A_getI (pc := 139) C fl_X0_40 rfl (a := b) rfl hB.1 dX0_copyFrom_139 (fun (r_139 : i32 ((up (cpd v a b 24 10 false) a 8 (v b 8)) b 9)) => ?_)
        have e_142 : (up (cpd v a b 24 10 false) a 8 (v b 8)) b 9 = v b 9 := by rw [up_ne (by omega)]; exact cpd_b (k := 0) hab (by decide)
        rw [e_142] at r_139
        refine M.to (st2 := [vI (v b 9), vR ((a : Nat) : Int)]) ?_ rfl (by rw [e_142]) rfl
        refine A_putI (pc := 142) C fl_X0_40 rfl (by decide) (a := a) rfl hA.1 (by omega) dX0_copyFrom_142 ?_
        refine M_aload_n (pc := 145) C dX0_copyFrom_145 rfl (by omega) ?_
        refine M_aload_n (pc := 146) C dX0_copyFrom_146 rfl (by omega) ?_
        refine A_getI (pc := 147) C fl_X0_43 rfl (a := b) rfl hB.1 dX0_copyFrom_147 (fun (r_147 : i32 ((up (up (cpd v a b 24 10 false) a 8 (v b 8)) a 9 (v b 9)) b 10)) => ?_)
        have e_150 : (up (up (cpd v a b 24 10 false) a 8 (v b 8)) a 9 (v b 9)) b 10 = v b 10 := by rw [up_ne (by omega), up_ne (by omega)]; exact cpd_b (k := 0) hab (by decide)
        rw [e_150] at r_147
        refine M.to (st2 := [vI (v b 10), vR ((a : Nat) : Int)]) ?_ rfl (by rw [e_150]) rfl
        refine A_putI (pc := 150) C fl_X0_43 rfl (by decide) (a := a) rfl hA.1 (by omega) dX0_copyFrom_150 ?_
        exact M_vret (pc := 153) C rfl dX0_copyFrom_153 (by rw [cpd_s3]) rfl
      · refine M_aload_n (pc := 63) C dX0_copyFrom_63 rfl (by omega) ?_
        refine A_getR (pc := 64) C fl_X0_21 rfl (a := a) (j := ((a + 4 : Nat) : Int)) rfl hA.1 (lkD_at (by decide)) dX0_copyFrom_64 ?_
        refine M_iload_n (pc := 67) C dX0_copyFrom_67 rfl ?_
        refine M_aload_n (pc := 68) C dX0_copyFrom_68 rfl (by omega) ?_
        refine A_getR (pc := 69) C fl_X0_21 rfl (a := b) (j := ((b + 4 : Nat) : Int)) rfl hB.1 (lkD_at (by decide)) dX0_copyFrom_69 ?_
        refine M_iload_n (pc := 72) C dX0_copyFrom_72 rfl ?_
        refine A_iald (pc := 73) C (a := (b + 4)) (q := i) rfl hB.2.2.2.2.1 (by decide) rfl (by omega) dX0_copyFrom_73 (fun (r_73 : i32 ((cpd v a b 24 i false) (b + 4) i)) => ?_)
        have e_74 : (cpd v a b 24 i false) (b + 4) i = v (b + 4) i := by rw [cpd_b hab (by decide)]
        rw [e_74] at r_73
        refine M.to (st2 := [vI (v (b + 4) i), vI ((i : Nat) : Int), vR ((a + 4 : Nat) : Int)]) ?_ rfl (by rw [e_74]) rfl
        refine A_iast (pc := 74) C (a := (a + 4)) (q := i) rfl hA.2.2.2.2.1 (by decide) rfl (by omega) (by omega) dX0_copyFrom_74 ?_
        refine M_aload_n (pc := 75) C dX0_copyFrom_75 rfl (by omega) ?_
        refine A_getR (pc := 76) C fl_X0_24 rfl (a := a) (j := ((a + 5 : Nat) : Int)) rfl hA.1 (lkD_at (by decide)) dX0_copyFrom_76 ?_
        refine M_iload_n (pc := 79) C dX0_copyFrom_79 rfl ?_
        refine M_aload_n (pc := 80) C dX0_copyFrom_80 rfl (by omega) ?_
        refine A_getR (pc := 81) C fl_X0_24 rfl (a := b) (j := ((b + 5 : Nat) : Int)) rfl hB.1 (lkD_at (by decide)) dX0_copyFrom_81 ?_
        refine M_iload_n (pc := 84) C dX0_copyFrom_84 rfl ?_
        refine A_iald (pc := 85) C (a := (b + 5)) (q := i) rfl hB.2.2.2.2.2.1 (by decide) rfl (by omega) dX0_copyFrom_85 (fun (r_85 : i32 ((up (cpd v a b 24 i false) (a + 4) i (v (b + 4) i)) (b + 5) i)) => ?_)
        have e_86 : (up (cpd v a b 24 i false) (a + 4) i (v (b + 4) i)) (b + 5) i = v (b + 5) i := by rw [up_ne (by omega), cpd_b hab (by decide)]
        rw [e_86] at r_85
        refine M.to (st2 := [vI (v (b + 5) i), vI ((i : Nat) : Int), vR ((a + 5 : Nat) : Int)]) ?_ rfl (by rw [e_86]) rfl
        refine A_iast (pc := 86) C (a := (a + 5)) (q := i) rfl hA.2.2.2.2.2.1 (by decide) rfl (by omega) (by omega) dX0_copyFrom_86 ?_
        refine M_aload_n (pc := 87) C dX0_copyFrom_87 rfl (by omega) ?_
        refine A_getR (pc := 88) C fl_X0_27 rfl (a := a) (j := ((a + 6 : Nat) : Int)) rfl hA.1 (lkD_at (by decide)) dX0_copyFrom_88 ?_
        refine M_iload_n (pc := 91) C dX0_copyFrom_91 rfl ?_
        refine M_aload_n (pc := 92) C dX0_copyFrom_92 rfl (by omega) ?_
        refine A_getR (pc := 93) C fl_X0_27 rfl (a := b) (j := ((b + 6 : Nat) : Int)) rfl hB.1 (lkD_at (by decide)) dX0_copyFrom_93 ?_
        refine M_iload_n (pc := 96) C dX0_copyFrom_96 rfl ?_
        refine A_iald (pc := 97) C (a := (b + 6)) (q := i) rfl hB.2.2.2.2.2.2.1 (by decide) rfl (by omega) dX0_copyFrom_97 (fun (r_97 : i32 ((up (up (cpd v a b 24 i false) (a + 4) i (v (b + 4) i)) (a + 5) i (v (b + 5) i)) (b + 6) i)) => ?_)
        have e_98 : (up (up (cpd v a b 24 i false) (a + 4) i (v (b + 4) i)) (a + 5) i (v (b + 5) i)) (b + 6) i = v (b + 6) i := by rw [up_ne (by omega), up_ne (by omega), cpd_b hab (by decide)]
        rw [e_98] at r_97
        refine M.to (st2 := [vI (v (b + 6) i), vI ((i : Nat) : Int), vR ((a + 6 : Nat) : Int)]) ?_ rfl (by rw [e_98]) rfl
        refine A_iast (pc := 98) C (a := (a + 6)) (q := i) rfl hA.2.2.2.2.2.2.1 (by decide) rfl (by omega) (by omega) dX0_copyFrom_98 ?_
        refine M_aload_n (pc := 99) C dX0_copyFrom_99 rfl (by omega) ?_
        refine A_getR (pc := 100) C fl_X0_30 rfl (a := a) (j := ((a + 7 : Nat) : Int)) rfl hA.1 (lkD_at (by decide)) dX0_copyFrom_100 ?_
        refine M_iload_n (pc := 103) C dX0_copyFrom_103 rfl ?_
        refine M_aload_n (pc := 104) C dX0_copyFrom_104 rfl (by omega) ?_
        refine A_getR (pc := 105) C fl_X0_30 rfl (a := b) (j := ((b + 7 : Nat) : Int)) rfl hB.1 (lkD_at (by decide)) dX0_copyFrom_105 ?_
        refine M_iload_n (pc := 108) C dX0_copyFrom_108 rfl ?_
        refine A_iald (pc := 109) C (a := (b + 7)) (q := i) rfl hB.2.2.2.2.2.2.2.1 (by decide) rfl (by omega) dX0_copyFrom_109 (fun (r_109 : i32 ((up (up (up (cpd v a b 24 i false) (a + 4) i (v (b + 4) i)) (a + 5) i (v (b + 5) i)) (a + 6) i (v (b + 6) i)) (b + 7) i)) => ?_)
        have e_110 : (up (up (up (cpd v a b 24 i false) (a + 4) i (v (b + 4) i)) (a + 5) i (v (b + 5) i)) (a + 6) i (v (b + 6) i)) (b + 7) i = v (b + 7) i := by rw [up_ne (by omega), up_ne (by omega), up_ne (by omega), cpd_b hab (by decide)]
        rw [e_110] at r_109
        refine M.to (st2 := [vI (v (b + 7) i), vI ((i : Nat) : Int), vR ((a + 7 : Nat) : Int)]) ?_ rfl (by rw [e_110]) rfl
        refine A_iast (pc := 110) C (a := (a + 7)) (q := i) rfl hA.2.2.2.2.2.2.2.1 (by decide) rfl (by omega) (by omega) dX0_copyFrom_110 ?_
        refine M_aload_n (pc := 111) C dX0_copyFrom_111 rfl (by omega) ?_
        refine A_getR (pc := 112) C fl_X0_33 rfl (a := a) (j := ((a + 8 : Nat) : Int)) rfl hA.1 (lkD_at (by decide)) dX0_copyFrom_112 ?_
        refine M_iload_n (pc := 115) C dX0_copyFrom_115 rfl ?_
        refine M_aload_n (pc := 116) C dX0_copyFrom_116 rfl (by omega) ?_
        refine A_getR (pc := 117) C fl_X0_33 rfl (a := b) (j := ((b + 8 : Nat) : Int)) rfl hB.1 (lkD_at (by decide)) dX0_copyFrom_117 ?_
        refine M_iload_n (pc := 120) C dX0_copyFrom_120 rfl ?_
        refine A_iald (pc := 121) C (a := (b + 8)) (q := i) rfl hB.2.2.2.2.2.2.2.2 (by decide) rfl (by omega) dX0_copyFrom_121 (fun (r_121 : i32 ((up (up (up (up (cpd v a b 24 i false) (a + 4) i (v (b + 4) i)) (a + 5) i (v (b + 5) i)) (a + 6) i (v (b + 6) i)) (a + 7) i (v (b + 7) i)) (b + 8) i)) => ?_)
        have e_122 : (up (up (up (up (cpd v a b 24 i false) (a + 4) i (v (b + 4) i)) (a + 5) i (v (b + 5) i)) (a + 6) i (v (b + 6) i)) (a + 7) i (v (b + 7) i)) (b + 8) i = v (b + 8) i := by rw [up_ne (by omega), up_ne (by omega), up_ne (by omega), up_ne (by omega), cpd_b hab (by decide)]
        rw [e_122] at r_121
        refine M.to (st2 := [vI (v (b + 8) i), vI ((i : Nat) : Int), vR ((a + 8 : Nat) : Int)]) ?_ rfl (by rw [e_122]) rfl
        refine A_iast (pc := 122) C (a := (a + 8)) (q := i) rfl hA.2.2.2.2.2.2.2.2 (by decide) rfl (by omega) (by omega) dX0_copyFrom_122 ?_
        refine M_iinc (pc := 123) C dX0_copyFrom_123 rfl (by decide) ?_
        refine M_goto (pc := 126) C (tgt := 57) dX0_copyFrom_126 (by decide) ?_
        exact M.to (ih (by omega)) rfl rfl (by rw [cpd_s2])
    · refine M_aload_n (pc := 13) C dX0_copyFrom_13 rfl (by omega) ?_
      refine A_getR (pc := 14) C fl_X0_9 rfl (a := a) (j := ((a + 1 : Nat) : Int)) rfl hA.1 (lkD_at (by decide)) dX0_copyFrom_14 ?_
      refine M_iload_n (pc := 17) C dX0_copyFrom_17 rfl ?_
      refine M_aload_n (pc := 18) C dX0_copyFrom_18 rfl (by omega) ?_
      refine A_getR (pc := 19) C fl_X0_9 rfl (a := b) (j := ((b + 1 : Nat) : Int)) rfl hB.1 (lkD_at (by decide)) dX0_copyFrom_19 ?_
      refine M_iload_n (pc := 22) C dX0_copyFrom_22 rfl ?_
      refine A_iald (pc := 23) C (a := (b + 1)) (q := i) rfl hB.2.1 (by decide) rfl (by omega) dX0_copyFrom_23 (fun (r_23 : i32 ((cpd v a b i 0 false) (b + 1) i)) => ?_)
      have e_24 : (cpd v a b i 0 false) (b + 1) i = v (b + 1) i := by rw [cpd_b hab (by decide)]
      rw [e_24] at r_23
      refine M.to (st2 := [vI (v (b + 1) i), vI ((i : Nat) : Int), vR ((a + 1 : Nat) : Int)]) ?_ rfl (by rw [e_24]) rfl
      refine A_iast (pc := 24) C (a := (a + 1)) (q := i) rfl hA.2.1 (by decide) rfl (by omega) (by omega) dX0_copyFrom_24 ?_
      refine M_aload_n (pc := 25) C dX0_copyFrom_25 rfl (by omega) ?_
      refine A_getR (pc := 26) C fl_X0_15 rfl (a := a) (j := ((a + 2 : Nat) : Int)) rfl hA.1 (lkD_at (by decide)) dX0_copyFrom_26 ?_
      refine M_iload_n (pc := 29) C dX0_copyFrom_29 rfl ?_
      refine M_aload_n (pc := 30) C dX0_copyFrom_30 rfl (by omega) ?_
      refine A_getR (pc := 31) C fl_X0_15 rfl (a := b) (j := ((b + 2 : Nat) : Int)) rfl hB.1 (lkD_at (by decide)) dX0_copyFrom_31 ?_
      refine M_iload_n (pc := 34) C dX0_copyFrom_34 rfl ?_
      refine A_iald (pc := 35) C (a := (b + 2)) (q := i) rfl hB.2.2.1 (by decide) rfl (by omega) dX0_copyFrom_35 (fun (r_35 : i32 ((up (cpd v a b i 0 false) (a + 1) i (v (b + 1) i)) (b + 2) i)) => ?_)
      have e_36 : (up (cpd v a b i 0 false) (a + 1) i (v (b + 1) i)) (b + 2) i = v (b + 2) i := by rw [up_ne (by omega), cpd_b hab (by decide)]
      rw [e_36] at r_35
      refine M.to (st2 := [vI (v (b + 2) i), vI ((i : Nat) : Int), vR ((a + 2 : Nat) : Int)]) ?_ rfl (by rw [e_36]) rfl
      refine A_iast (pc := 36) C (a := (a + 2)) (q := i) rfl hA.2.2.1 (by decide) rfl (by omega) (by omega) dX0_copyFrom_36 ?_
      refine M_aload_n (pc := 37) C dX0_copyFrom_37 rfl (by omega) ?_
      refine A_getR (pc := 38) C fl_X0_18 rfl (a := a) (j := ((a + 3 : Nat) : Int)) rfl hA.1 (lkD_at (by decide)) dX0_copyFrom_38 ?_
      refine M_iload_n (pc := 41) C dX0_copyFrom_41 rfl ?_
      refine M_aload_n (pc := 42) C dX0_copyFrom_42 rfl (by omega) ?_
      refine A_getR (pc := 43) C fl_X0_18 rfl (a := b) (j := ((b + 3 : Nat) : Int)) rfl hB.1 (lkD_at (by decide)) dX0_copyFrom_43 ?_
      refine M_iload_n (pc := 46) C dX0_copyFrom_46 rfl ?_
      refine A_iald (pc := 47) C (a := (b + 3)) (q := i) rfl hB.2.2.2.1 (by decide) rfl (by omega) dX0_copyFrom_47 (fun (r_47 : i32 ((up (up (cpd v a b i 0 false) (a + 1) i (v (b + 1) i)) (a + 2) i (v (b + 2) i)) (b + 3) i)) => ?_)
      have e_48 : (up (up (cpd v a b i 0 false) (a + 1) i (v (b + 1) i)) (a + 2) i (v (b + 2) i)) (b + 3) i = v (b + 3) i := by rw [up_ne (by omega), up_ne (by omega), cpd_b hab (by decide)]
      rw [e_48] at r_47
      refine M.to (st2 := [vI (v (b + 3) i), vI ((i : Nat) : Int), vR ((a + 3 : Nat) : Int)]) ?_ rfl (by rw [e_48]) rfl
      refine A_iast (pc := 48) C (a := (a + 3)) (q := i) rfl hA.2.2.2.1 (by decide) rfl (by omega) (by omega) dX0_copyFrom_48 ?_
      refine M_iinc (pc := 49) C dX0_copyFrom_49 rfl (by decide) ?_
      refine M_goto (pc := 52) C (tgt := 7) dX0_copyFrom_52 (by decide) ?_
      exact M.to (ih (by omega)) rfl rfl (by rw [cpd_s1])
  · exfalso
    omega
theorem c_X2_dropOldest {N : Nat} {T : Ty} {Q G : Nat → Int} {v : Ct} (hT : TT T) (hQ : ∀ q, q < 6 → ∃ g : Nat, Q q = (g : Int) ∧ T g = (5, 0, lkD g)) (hg : G 1 = 6) : Runs mX2_dropOldest 0 0 0 [vR 10] N T (sa (sa v 11 Q) 10 G) none N T (sa (sa v 11 (rs (rtN Q 6) 5 (Q 0))) 10 (rs G 1 5)) := by
  obtain ⟨g0, hg0, ht0⟩ := hQ 0 (by decide)
  refine Runs.of (by decide) (Nat.le_of_ble_eq_true rfl) fun κ C => ?_
  refine M_aload_n (pc := 0) C dX2_dropOldest_0 rfl (by decide) ?_
  refine A_getR (pc := 1) C fl_X2_11 rfl (a := 10) (j := 11) rfl (tt_10 hT) rfl dX2_dropOldest_1 ?_
  refine M_iconst (pc := 4) C dX2_dropOldest_4 ?_
  refine A_aald (pc := 5) C (a := 11) (q := 0) rfl (tt_11 hT) (by decide) rfl (by omega) dX2_dropOldest_5 (fun (r_5 : i32 (Q 0)) => ?_)
  refine M.to (pc := 6) (st2 := [vR (Q 0)]) ?_ rfl rfl rfl
  refine M.to (st2 := [vR ((g0 : Nat) : Int)]) ?_ rfl (by rw [hg0]) rfl
  refine M_astore_n (pc := 6) C dX2_dropOldest_6 (by decide) (by omega) ?_
  refine M.to (L2 := [some (vR 10), some (vR (Q 0)), none]) (v2 := sa (sa v 11 (rtN Q 1)) 10 G) ?_ (by rw [hg0]; rfl) rfl (by rw [rtN_1])
  refine M_iconst (pc := 7) C dX2_dropOldest_7 ?_
  refine M_istore_n (pc := 8) C dX2_dropOldest_8 (by decide) ?_
  refine loop_le_from (P := fun i => M κ N T 9 [some (vR 10), some (vR (Q 0)), some (vI ((i : Nat) : Int))] [] (sa (sa v 11 (rtN Q i)) 10 G) 0 0 (QR κ none N T (sa (sa v 11 (rs (rtN Q 6) 5 (Q 0))) 10 (rs G 1 5)) 0 0)) 1 6 (by omega) (fun i hi0 hi ih => ?_)
  refine M_iload_n (pc := 9) C dX2_dropOldest_9 rfl ?_
  refine M_bipush (pc := 10) C (by decide) dX2_dropOldest_10 ?_
  refine M_icmp_ge (pc := 12) C (tgt := 35) (by omega) (by omega) dX2_dropOldest_12 (by decide) (fun h_12 => ?_) (fun h_12 => ?_)
  · have hi6 : i = 6 := by omega
    refine M.to (v2 := sa (sa v 11 (rtN Q 6)) 10 G) ?_ rfl rfl (by rw [hi6])
    refine M_aload_n (pc := 35) C dX2_dropOldest_35 rfl (by decide) ?_
    refine A_getR (pc := 36) C fl_X2_11 rfl (a := 10) (j := 11) rfl (tt_10 hT) rfl dX2_dropOldest_36 ?_
    refine M_iconst (pc := 39) C dX2_dropOldest_39 ?_
    refine M_aload_n (pc := 40) C dX2_dropOldest_40 rfl (by omega) ?_
    refine A_aast (pc := 41) C (a := 11) (q := 5) (g := g0) rfl (tt_11 hT) (by decide) rfl (by omega) hg0 ht0 (by omega) dX2_dropOldest_41 ?_
    refine M.to (pc := 42) (v2 := sa (sa v 11 (rs (rtN Q 6) 5 (Q 0))) 10 G) ?_ rfl rfl (by rw [sa_up1 (by decide), sa_up0])
    refine M_aload_n (pc := 42) C dX2_dropOldest_42 rfl (by decide) ?_
    refine M_dup (pc := 43) C rfl dX2_dropOldest_43 ?_
    refine A_getI (pc := 44) C fl_X2_17 rfl (a := 10) rfl (tt_10 hT) dX2_dropOldest_44 (fun (r_44 : i32 (G 1)) => ?_)
    refine M.to (pc := 47) (st2 := [vI (G 1), vR 10]) ?_ rfl rfl rfl
    refine M_iconst (pc := 47) C dX2_dropOldest_47 ?_
    refine M_isub (pc := 48) C dX2_dropOldest_48 ?_
    refine M.to (st2 := [vI 5, vR 10]) ?_ rfl (by rw [hg]; rfl) rfl
    refine A_putI (pc := 49) C fl_X2_17 rfl (by decide) (a := 10) rfl (tt_10 hT) (by omega) dX2_dropOldest_49 ?_
    refine M.to (pc := 52) (v2 := sa (sa v 11 (rs (rtN Q 6) 5 (Q 0))) 10 (rs G 1 5)) ?_ rfl rfl (by rw [sa_up0])
    exact M_vret (pc := 52) C rfl dX2_dropOldest_52 rfl rfl
  · obtain ⟨gi, hgi, hti⟩ := hQ i (by omega)
    refine M_aload_n (pc := 15) C dX2_dropOldest_15 rfl (by decide) ?_
    refine A_getR (pc := 16) C fl_X2_11 rfl (a := 10) (j := 11) rfl (tt_10 hT) rfl dX2_dropOldest_16 ?_
    refine M_iload_n (pc := 19) C dX2_dropOldest_19 rfl ?_
    refine M_iconst (pc := 20) C dX2_dropOldest_20 ?_
    refine M_isub (pc := 21) C dX2_dropOldest_21 ?_
    refine M_aload_n (pc := 22) C dX2_dropOldest_22 rfl (by decide) ?_
    refine A_getR (pc := 23) C fl_X2_11 rfl (a := 10) (j := 11) rfl (tt_10 hT) rfl dX2_dropOldest_23 ?_
    refine M_iload_n (pc := 26) C dX2_dropOldest_26 rfl ?_
    refine A_aald (pc := 27) C (a := 11) (q := i) rfl (tt_11 hT) (by decide) rfl (by omega) dX2_dropOldest_27 (fun (r_27 : i32 ((rtN Q i) i)) => ?_)
    refine M.to (pc := 28) (st2 := [vR ((rtN Q i) i), vI (((i : Nat) : Int) - 1), vR 11]) ?_ rfl rfl rfl
    rw [rtN_i] at r_27
    refine M.to (st2 := [vR (Q i), vI (((i : Nat) : Int) - 1), vR 11]) ?_ rfl (by rw [rtN_i]) rfl
    refine A_aast (pc := 28) C (a := 11) (q := (i - 1)) (g := gi) rfl (tt_11 hT) (by decide) (by omega) (by omega) hgi hti r_27 dX2_dropOldest_28 ?_
    refine M.to (pc := 29) (v2 := sa (sa v 11 (rs (rtN Q i) (i - 1) (Q i))) 10 G) ?_ rfl rfl (by rw [sa_up1 (by decide), sa_up0])
    refine M_iinc (pc := 29) C dX2_dropOldest_29 rfl (by decide) ?_
    refine M_goto (pc := 32) C (tgt := 9) dX2_dropOldest_32 (by decide) ?_
    exact M.to (ih (by omega)) rfl rfl (by rw [rtN_s Q hi0])
