theorem c_X1_tryTail_0 {N : Nat} {T : Ty} {Ld : Nat → Int} {n a u : Nat} {kn least : Int} {v : Ct} (hT : TT T) (hx : v 78 2 = (n : Int)) (hn : n ≤ 10) (hL : ∀ q, q < n → 0 ≤ v 80 q ∧ v 80 q < 16) (hl : i32 least) (hLd : ∀ b, b < 10 → 0 ≤ Ld b ∧ Ld b ≤ 16) (hk : 0 ≤ kn ∧ kn ≤ 10) (hu : u ≤ 10) (ha : a ≤ 10) (hak : n ≤ a) : Runs mX1_tryTail 0 0 0 [vR 78, vR 81, vI ((a : Nat) : Int), vI ((u : Nat) : Int), vI kn, vI least] N T (sa v 81 Ld) (some (vI (ttF (v 80) n least 0 Ld a u kn))) N T (sa v 81 Ld) := by
  refine Runs.of (by decide) (Nat.le_of_ble_eq_true rfl) fun κ C => ?_
  refine M_iload_n (pc := 0) C dX1_tryTail_0 rfl ?_
  refine M_iload (pc := 1) C dX1_tryTail_1 rfl ?_
  refine M_icmp_ge (pc := 3) C (tgt := 13) (by omega) (by omega) dX1_tryTail_3 (by decide) (fun h_3 => ?_) (fun h_3 => ?_)
  · refine M_iload (pc := 13) C dX1_tryTail_13 rfl ?_
    exact M_iret (pc := 15) C rfl dX1_tryTail_15 (by rw [ttF_k (by omega)]) rfl
  · refine M_iload (pc := 6) C dX1_tryTail_6 rfl ?_
    refine M_iload (pc := 8) C dX1_tryTail_8 rfl ?_
    refine M_icmp_gt (pc := 10) C (tgt := 16) (by omega) (by omega) dX1_tryTail_10 (by decide) (fun h_10 => ?_) (fun h_10 => ?_)
    · refine M_iload_n (pc := 16) C dX1_tryTail_16 rfl ?_
      refine M_aload_n (pc := 17) C dX1_tryTail_17 rfl (by decide) ?_
      refine A_getI (pc := 18) C fl_X1_32 rfl (a := 78) rfl (tt_78 hT) dX1_tryTail_18 (fun (r_18 : i32 (v 78 2)) => ?_)
      refine M.to (pc := 21) (st2 := [vI (v 78 2), vI ((a : Nat) : Int)]) ?_ rfl rfl rfl
      refine M_icmp_ge (pc := 21) C (tgt := 30) (by omega) (by omega) dX1_tryTail_21 (by decide) (fun h_21 => ?_) (fun h_21 => ?_)
      · refine M_iload_n (pc := 30) C dX1_tryTail_30 rfl ?_
        exact M_iret (pc := 31) C rfl dX1_tryTail_31 (by rw [ttF_u (by omega) (by omega)]) rfl
      · exfalso
        omega
    · refine M_iload (pc := 13) C dX1_tryTail_13 rfl ?_
      exact M_iret (pc := 15) C rfl dX1_tryTail_15 (by rw [ttF_k (by omega)]) rfl
theorem rs_rng {Ld : Nat → Int} {x : Int} (h : ∀ b, b < 10 → 0 ≤ Ld b ∧ Ld b ≤ 16) {i : Nat} (hi : i < 10) (hx : 0 ≤ x) (hf : Ld i + x ≤ 16) : ∀ b, b < 10 → 0 ≤ rs Ld i (Ld i + x) b ∧ rs Ld i (Ld i + x) b ≤ 16 := fun b hb => by
  have h1 := h b hb
  by_cases e : b = i
  · subst e
    rw [rs_eq]
    omega
  · rw [rs_ne e]
    exact h1
theorem c_X1_tryTail_s {N : Nat} {T : Ty} {Ld : Nat → Int} {n a u k : Nat} {kn least : Int} {v : Ct} (hT : TT T) (hx : v 78 2 = (n : Int)) (hn : n ≤ 10) (hL : ∀ q, q < n → 0 ≤ v 80 q ∧ v 80 q < 16) (hl : i32 least) (hLd : ∀ b, b < 10 → 0 ≤ Ld b ∧ Ld b ≤ 16) (hk : 0 ≤ kn ∧ kn ≤ 10) (hu : u ≤ 10) (ha : a ≤ 10) (hak : n ≤ a + (k + 1)) (ihr : ∀ (Ld : Nat → Int) (a u : Nat) (kn : Int), (∀ b, b < 10 → 0 ≤ Ld b ∧ Ld b ≤ 16) → (0 ≤ kn ∧ kn ≤ 10) → u ≤ 10 → a ≤ 10 → n ≤ a + k → Runs mX1_tryTail k 0 0 [vR 78, vR 81, vI ((a : Nat) : Int), vI ((u : Nat) : Int), vI kn, vI least] N T (sa v 81 Ld) (some (vI (ttF (v 80) n least k Ld a u kn))) N T (sa v 81 Ld)) : Runs mX1_tryTail (k + 1) 0 0 [vR 78, vR 81, vI ((a : Nat) : Int), vI ((u : Nat) : Int), vI kn, vI least] N T (sa v 81 Ld) (some (vI (ttF (v 80) n least (k + 1) Ld a u kn))) N T (sa v 81 Ld) := by
  refine Runs.of (by decide) (Nat.le_of_ble_eq_true rfl) fun κ C => ?_
  refine M_iload_n (pc := 0) C dX1_tryTail_0 rfl ?_
  refine M_iload (pc := 1) C dX1_tryTail_1 rfl ?_
  refine M_icmp_ge (pc := 3) C (tgt := 13) (by omega) (by omega) dX1_tryTail_3 (by decide) (fun h_3 => ?_) (fun h_3 => ?_)
  · refine M_iload (pc := 13) C dX1_tryTail_13 rfl ?_
    exact M_iret (pc := 15) C rfl dX1_tryTail_15 (by rw [ttF_k (by omega)]) rfl
  · refine M_iload (pc := 6) C dX1_tryTail_6 rfl ?_
    refine M_iload (pc := 8) C dX1_tryTail_8 rfl ?_
    refine M_icmp_gt (pc := 10) C (tgt := 16) (by omega) (by omega) dX1_tryTail_10 (by decide) (fun h_10 => ?_) (fun h_10 => ?_)
    · refine M_iload_n (pc := 16) C dX1_tryTail_16 rfl ?_
      refine M_aload_n (pc := 17) C dX1_tryTail_17 rfl (by decide) ?_
      refine A_getI (pc := 18) C fl_X1_32 rfl (a := 78) rfl (tt_78 hT) dX1_tryTail_18 (fun (r_18 : i32 (v 78 2)) => ?_)
      refine M.to (pc := 21) (st2 := [vI (v 78 2), vI ((a : Nat) : Int)]) ?_ rfl rfl rfl
      refine M_icmp_ge (pc := 21) C (tgt := 30) (by omega) (by omega) dX1_tryTail_21 (by decide) (fun h_21 => ?_) (fun h_21 => ?_)
      · refine M_iload_n (pc := 30) C dX1_tryTail_30 rfl ?_
        exact M_iret (pc := 31) C rfl dX1_tryTail_31 (by rw [ttF_u (by omega) (by omega)]) rfl
      · refine M_iload_n (pc := 24) C dX1_tryTail_24 rfl ?_
        refine M_bipush (pc := 25) C (by decide) dX1_tryTail_25 ?_
        refine M_icmp_lt (pc := 27) C (tgt := 32) (by omega) (by omega) dX1_tryTail_27 (by decide) (fun h_27 => ?_) (fun h_27 => ?_)
        · have hLa := hL a (by omega)
          have hLd2 : ∀ i, i < 10 → Ld i + v 80 a ≤ 16 → ∀ b, b < 10 → 0 ≤ rs Ld i (Ld i + v 80 a) b ∧ rs Ld i (Ld i + v 80 a) b ≤ 16 := fun i hi hf b hb => rs_rng hLd hi hLa.1 hf b hb
          refine M_iload (pc := 32) C dX1_tryTail_32 rfl ?_
          refine M_istore (pc := 34) C dX1_tryTail_34 (by decide) ?_
          refine M_iconst (pc := 36) C dX1_tryTail_36 ?_
          refine M_istore (pc := 37) C dX1_tryTail_37 (by decide) ?_
          refine loop_le (P := fun i => M κ N T 39 [some (vR 78), some (vR 81), some (vI ((a : Nat) : Int)), some (vI ((u : Nat) : Int)), some (vI kn), some (vI least), some (vI (ttI (v 80) n least k Ld a u kn i)), some (vI ((i : Nat) : Int)), none] [] (sa v 81 Ld) 0 0 (QR κ (some (vI (ttF (v 80) n least (k + 1) Ld a u kn))) N T (sa v 81 Ld) 0 0)) (min (u + 1) 10) (fun i hi ih => ?_)
          have hbd := ttI_le (Lg := v 80) (n := n) (least := least) (k := k) (Ld := Ld) (a := a) (u := u) (kn := kn) hk.1 i
          refine M_iload (pc := 39) C dX1_tryTail_39 rfl ?_
          refine M_iload_n (pc := 41) C dX1_tryTail_41 rfl ?_
          refine M_icmp_gt (pc := 42) C (tgt := 138) (by omega) (by omega) dX1_tryTail_42 (by decide) (fun h_42 => ?_) (fun h_42 => ?_)
          · refine M_iload (pc := 138) C dX1_tryTail_138 rfl ?_
            exact M_iret (pc := 140) C rfl dX1_tryTail_140 (by rw [ttF_s (by omega) (by omega), show min (u + 1) 10 = i by omega]) rfl
          · refine M_iload (pc := 45) C dX1_tryTail_45 rfl ?_
            refine M_bipush (pc := 47) C (by decide) dX1_tryTail_47 ?_
            refine M_icmp_ge (pc := 49) C (tgt := 138) (by omega) (by omega) dX1_tryTail_49 (by decide) (fun h_49 => ?_) (fun h_49 => ?_)
            · refine M_iload (pc := 138) C dX1_tryTail_138 rfl ?_
              exact M_iret (pc := 140) C rfl dX1_tryTail_140 (by rw [ttF_s (by omega) (by omega), show min (u + 1) 10 = i by omega]) rfl
            · refine M_iload (pc := 52) C dX1_tryTail_52 rfl ?_
              refine M_aload_n (pc := 54) C dX1_tryTail_54 rfl (by decide) ?_
              refine A_alen (pc := 55) C (a := 81) rfl (tt_81 hT) dX1_tryTail_55 ?_
              refine M_icmp_ge (pc := 56) C (tgt := 138) (by omega) (by omega) dX1_tryTail_56 (by decide) (fun h_56 => ?_) (fun h_56 => ?_)
              · exfalso
                omega
              · refine M_aload_n (pc := 59) C dX1_tryTail_59 rfl (by decide) ?_
                refine M_iload (pc := 60) C dX1_tryTail_60 rfl ?_
                have hii : i < 10 := by omega
                have hLi := hLd i hii
                refine A_iald (pc := 62) C (a := 81) (q := i) rfl (tt_81 hT) (by decide) rfl (by omega) dX1_tryTail_62 (fun (r_62 : i32 (Ld i)) => ?_)
                refine M.to (pc := 63) (st2 := [vI (Ld i)]) ?_ rfl rfl rfl
                refine M_aload_n (pc := 63) C dX1_tryTail_63 rfl (by decide) ?_
                refine A_getR (pc := 64) C fl_X1_40 rfl (a := 78) (j := 80) rfl (tt_78 hT) rfl dX1_tryTail_64 ?_
                refine M_iload_n (pc := 67) C dX1_tryTail_67 rfl ?_
                refine A_iald (pc := 68) C (a := 80) (q := a) rfl (tt_80 hT) (by decide) rfl (by omega) dX1_tryTail_68 (fun (r_68 : i32 (v 80 a)) => ?_)
                refine M.to (pc := 69) (st2 := [vI (v 80 a), vI (Ld i)]) ?_ rfl rfl rfl
                refine M_iadd (pc := 69) C dX1_tryTail_69 ?_
                refine M_bipush (pc := 70) C (by decide) dX1_tryTail_70 ?_
                refine M_icmp_gt (pc := 72) C (tgt := 132) (by omega) (by omega) dX1_tryTail_72 (by decide) (fun h_72 => ?_) (fun h_72 => ?_)
                · have hE : ttI (v 80) n least k Ld a u kn (i + 1) = ttI (v 80) n least k Ld a u kn i := ttI_f (by omega)
                  refine M_iinc (pc := 132) C dX1_tryTail_132 rfl (by decide) ?_
                  refine M_goto (pc := 135) C (tgt := 39) dX1_tryTail_135 (by decide) ?_
                  exact M.to (ih (by omega)) (by first | (rw [hE]; done) | (rw [hE]; rfl)) rfl (by first | rfl | (rw [rs_back]; done))
                · have hfit : Ld i + v 80 a ≤ 16 := by omega
                  refine M_aload_n (pc := 75) C dX1_tryTail_75 rfl (by decide) ?_
                  refine M_iload (pc := 76) C dX1_tryTail_76 rfl ?_
                  refine M_dup2 (pc := 78) C rfl rfl dX1_tryTail_78 ?_
                  refine A_iald (pc := 79) C (a := 81) (q := i) rfl (tt_81 hT) (by decide) rfl (by omega) dX1_tryTail_79 (fun (r_79 : i32 (Ld i)) => ?_)
                  refine M.to (pc := 80) (st2 := [vI (Ld i), vI ((i : Nat) : Int), vR 81]) ?_ rfl rfl rfl
                  refine M_aload_n (pc := 80) C dX1_tryTail_80 rfl (by decide) ?_
                  refine A_getR (pc := 81) C fl_X1_40 rfl (a := 78) (j := 80) rfl (tt_78 hT) rfl dX1_tryTail_81 ?_
                  refine M_iload_n (pc := 84) C dX1_tryTail_84 rfl ?_
                  refine A_iald (pc := 85) C (a := 80) (q := a) rfl (tt_80 hT) (by decide) rfl (by omega) dX1_tryTail_85 (fun (r_85 : i32 (v 80 a)) => ?_)
                  refine M.to (pc := 86) (st2 := [vI (v 80 a), vI (Ld i), vI ((i : Nat) : Int), vR 81]) ?_ rfl rfl rfl
                  refine M_iadd (pc := 86) C dX1_tryTail_86 ?_
                  refine A_iast (pc := 87) C (a := 81) (q := i) rfl (tt_81 hT) (by decide) rfl (by omega) (by omega) dX1_tryTail_87 ?_
                  refine M.to (pc := 88) (v2 := sa v 81 (rs Ld i ((Ld i) + (v 80 a)))) ?_ rfl rfl (by rw [sa_up0])
                  refine M_iload (pc := 88) C dX1_tryTail_88 rfl ?_
                  refine M_iload_n (pc := 90) C dX1_tryTail_90 rfl ?_
                  refine M_icmp_ne (pc := 91) C (tgt := 100) (by omega) (by omega) dX1_tryTail_91 (by decide) (fun h_91 => ?_) (fun h_91 => ?_)
                  · have hE : ttI (v 80) n least k Ld a u kn (i + 1) = ttF (v 80) n least k (rs Ld i (Ld i + v 80 a)) (a + 1) u (ttI (v 80) n least k Ld a u kn i) := by rw [ttI_t hfit, if_neg (by omega)]
                    refine M_iload_n (pc := 100) C dX1_tryTail_100 rfl ?_
                    refine M_istore (pc := 101) C dX1_tryTail_101 (by decide) ?_
                    refine M_aload_n (pc := 103) C dX1_tryTail_103 rfl (by decide) ?_
                    refine M_aload_n (pc := 104) C dX1_tryTail_104 rfl (by decide) ?_
                    refine M_iload_n (pc := 105) C dX1_tryTail_105 rfl ?_
                    refine M_iconst (pc := 106) C dX1_tryTail_106 ?_
                    refine M_iadd (pc := 107) C dX1_tryTail_107 ?_
                    refine M_iload (pc := 108) C dX1_tryTail_108 rfl ?_
                    refine M_iload (pc := 110) C dX1_tryTail_110 rfl ?_
                    refine M_iload (pc := 112) C dX1_tryTail_112 rfl ?_
                    refine A_cS (pc := 114) C (x := vI (ttF (v 80) n least k (rs Ld i (Ld i + v 80 a)) (a + 1) (u) (ttI (v 80) n least k Ld a u kn i))) (ihr (rs Ld i (Ld i + v 80 a)) (a + 1) (u) (ttI (v 80) n least k Ld a u kn i) (hLd2 i hii hfit) ⟨hbd.1, by omega⟩ (by omega) (by omega) (by omega)) yw_X1_tryTail lk_X1_47 rfl dX1_tryTail_114 rfl (Nat.le_of_ble_eq_true rfl) (by omega) ⟨Nat.le_refl _, Nat.le_refl _⟩ ?_
                    refine M_istore (pc := 117) C dX1_tryTail_117 (by decide) ?_
                    refine M_aload_n (pc := 119) C dX1_tryTail_119 rfl (by decide) ?_
                    refine M_iload (pc := 120) C dX1_tryTail_120 rfl ?_
                    refine M_dup2 (pc := 122) C rfl rfl dX1_tryTail_122 ?_
                    refine A_iald (pc := 123) C (a := 81) (q := i) rfl (tt_81 hT) (by decide) rfl (by omega) dX1_tryTail_123 (fun (r_123 : i32 ((rs Ld i ((Ld i) + (v 80 a))) i)) => ?_)
                    refine M.to (pc := 124) (st2 := [vI ((rs Ld i ((Ld i) + (v 80 a))) i), vI ((i : Nat) : Int), vR 81]) ?_ rfl rfl rfl
                    refine M_aload_n (pc := 124) C dX1_tryTail_124 rfl (by decide) ?_
                    refine A_getR (pc := 125) C fl_X1_40 rfl (a := 78) (j := 80) rfl (tt_78 hT) rfl dX1_tryTail_125 ?_
                    refine M_iload_n (pc := 128) C dX1_tryTail_128 rfl ?_
                    refine A_iald (pc := 129) C (a := 80) (q := a) rfl (tt_80 hT) (by decide) rfl (by omega) dX1_tryTail_129 (fun (r_129 : i32 (v 80 a)) => ?_)
                    refine M.to (pc := 130) (st2 := [vI (v 80 a), vI ((rs Ld i ((Ld i) + (v 80 a))) i), vI ((i : Nat) : Int), vR 81]) ?_ rfl rfl rfl
                    refine M_isub (pc := 130) C dX1_tryTail_130 ?_
                    refine M.to (st2 := [vI (Ld i), vI ((i : Nat) : Int), vR 81]) ?_ rfl (by rw [rs_eq, Int.add_sub_cancel]) rfl
                    refine A_iast (pc := 131) C (a := 81) (q := i) rfl (tt_81 hT) (by decide) rfl (by omega) (by omega) dX1_tryTail_131 ?_
                    refine M.to (pc := 132) (v2 := sa v 81 (rs (rs Ld i ((Ld i) + (v 80 a))) i (Ld i))) ?_ rfl rfl (by rw [sa_up0])
                    refine M_iinc (pc := 132) C dX1_tryTail_132 rfl (by decide) ?_
                    refine M_goto (pc := 135) C (tgt := 39) dX1_tryTail_135 (by decide) ?_
                    refine M.drop [true, true, true, true, true, true, true, true, false] rfl ?_
                    exact M.to (ih (by omega)) (by first | (rw [hE]; done) | (rw [hE]; rfl)) rfl (by first | rfl | (rw [rs_back]; done))
                  · have hE : ttI (v 80) n least k Ld a u kn (i + 1) = ttF (v 80) n least k (rs Ld i (Ld i + v 80 a)) (a + 1) (u + 1) (ttI (v 80) n least k Ld a u kn i) := by rw [ttI_t hfit, if_pos (by omega)]
                    refine M_iload_n (pc := 94) C dX1_tryTail_94 rfl ?_
                    refine M_iconst (pc := 95) C dX1_tryTail_95 ?_
                    refine M_iadd (pc := 96) C dX1_tryTail_96 ?_
                    refine M_goto (pc := 97) C (tgt := 101) dX1_tryTail_97 (by decide) ?_
                    refine M_istore (pc := 101) C dX1_tryTail_101 (by decide) ?_
                    refine M_aload_n (pc := 103) C dX1_tryTail_103 rfl (by decide) ?_
                    refine M_aload_n (pc := 104) C dX1_tryTail_104 rfl (by decide) ?_
                    refine M_iload_n (pc := 105) C dX1_tryTail_105 rfl ?_
                    refine M_iconst (pc := 106) C dX1_tryTail_106 ?_
                    refine M_iadd (pc := 107) C dX1_tryTail_107 ?_
                    refine M_iload (pc := 108) C dX1_tryTail_108 rfl ?_
                    refine M_iload (pc := 110) C dX1_tryTail_110 rfl ?_
                    refine M_iload (pc := 112) C dX1_tryTail_112 rfl ?_
                    refine A_cS (pc := 114) C (x := vI (ttF (v 80) n least k (rs Ld i (Ld i + v 80 a)) (a + 1) (u + 1) (ttI (v 80) n least k Ld a u kn i))) (ihr (rs Ld i (Ld i + v 80 a)) (a + 1) (u + 1) (ttI (v 80) n least k Ld a u kn i) (hLd2 i hii hfit) ⟨hbd.1, by omega⟩ (by omega) (by omega) (by omega)) yw_X1_tryTail lk_X1_47 rfl dX1_tryTail_114 rfl (Nat.le_of_ble_eq_true rfl) (by omega) ⟨Nat.le_refl _, Nat.le_refl _⟩ ?_
                    refine M_istore (pc := 117) C dX1_tryTail_117 (by decide) ?_
                    refine M_aload_n (pc := 119) C dX1_tryTail_119 rfl (by decide) ?_
                    refine M_iload (pc := 120) C dX1_tryTail_120 rfl ?_
                    refine M_dup2 (pc := 122) C rfl rfl dX1_tryTail_122 ?_
                    refine A_iald (pc := 123) C (a := 81) (q := i) rfl (tt_81 hT) (by decide) rfl (by omega) dX1_tryTail_123 (fun (r_123 : i32 ((rs Ld i ((Ld i) + (v 80 a))) i)) => ?_)
                    refine M.to (pc := 124) (st2 := [vI ((rs Ld i ((Ld i) + (v 80 a))) i), vI ((i : Nat) : Int), vR 81]) ?_ rfl rfl rfl
                    refine M_aload_n (pc := 124) C dX1_tryTail_124 rfl (by decide) ?_
                    refine A_getR (pc := 125) C fl_X1_40 rfl (a := 78) (j := 80) rfl (tt_78 hT) rfl dX1_tryTail_125 ?_
                    refine M_iload_n (pc := 128) C dX1_tryTail_128 rfl ?_
                    refine A_iald (pc := 129) C (a := 80) (q := a) rfl (tt_80 hT) (by decide) rfl (by omega) dX1_tryTail_129 (fun (r_129 : i32 (v 80 a)) => ?_)
                    refine M.to (pc := 130) (st2 := [vI (v 80 a), vI ((rs Ld i ((Ld i) + (v 80 a))) i), vI ((i : Nat) : Int), vR 81]) ?_ rfl rfl rfl
                    refine M_isub (pc := 130) C dX1_tryTail_130 ?_
                    refine M.to (st2 := [vI (Ld i), vI ((i : Nat) : Int), vR 81]) ?_ rfl (by rw [rs_eq, Int.add_sub_cancel]) rfl
                    refine A_iast (pc := 131) C (a := 81) (q := i) rfl (tt_81 hT) (by decide) rfl (by omega) (by omega) dX1_tryTail_131 ?_
                    refine M.to (pc := 132) (v2 := sa v 81 (rs (rs Ld i ((Ld i) + (v 80 a))) i (Ld i))) ?_ rfl rfl (by rw [sa_up0])
                    refine M_iinc (pc := 132) C dX1_tryTail_132 rfl (by decide) ?_
                    refine M_goto (pc := 135) C (tgt := 39) dX1_tryTail_135 (by decide) ?_
                    refine M.drop [true, true, true, true, true, true, true, true, false] rfl ?_
                    exact M.to (ih (by omega)) (by first | (rw [hE]; done) | (rw [hE]; rfl)) rfl (by first | rfl | (rw [rs_back]; done))
        · exfalso
          omega
    · refine M_iload (pc := 13) C dX1_tryTail_13 rfl ?_
      exact M_iret (pc := 15) C rfl dX1_tryTail_15 (by rw [ttF_k (by omega)]) rfl
theorem c_X1_tryTail {N : Nat} {T : Ty} {n : Nat} {least : Int} {v : Ct} (hT : TT T) (hx : v 78 2 = (n : Int)) (hn : n ≤ 10) (hL : ∀ q, q < n → 0 ≤ v 80 q ∧ v 80 q < 16) (hl : i32 least) : ∀ (k : Nat) (Ld : Nat → Int) (a u : Nat) (kn : Int), (∀ b, b < 10 → 0 ≤ Ld b ∧ Ld b ≤ 16) → (0 ≤ kn ∧ kn ≤ 10) → u ≤ 10 → a ≤ 10 → n ≤ a + k → Runs mX1_tryTail k 0 0 [vR 78, vR 81, vI ((a : Nat) : Int), vI ((u : Nat) : Int), vI kn, vI least] N T (sa v 81 Ld) (some (vI (ttF (v 80) n least k Ld a u kn))) N T (sa v 81 Ld) := by
  intro k
  induction k with
  | zero => intro Ld a u kn h1 h2 h3 h4 h5; exact c_X1_tryTail_0 hT hx hn hL hl h1 h2 h3 h4 h5
  | succ k ih => intro Ld a u kn h1 h2 h3 h4 h5; exact c_X1_tryTail_s hT hx hn hL hl h1 h2 h3 h4 h5 ih
theorem c_X1_byTrying {N : Nat} {T : Ty} {Ld E Lg X : Nat → Int} {n : Nat} {v : Ct} (hT : TT T) (hD : DI (v 5) (v 6) (v 7) (v 8)) (hn : (clI (v 5) (v 8) E Lg 10).2.2 = n) (hL : ∀ q, q < (clI (v 5) (v 8) E Lg 10).2.2 → 0 ≤ ((clI (v 5) (v 8) E Lg 10).2.1) q ∧ ((clI (v 5) (v 8) E Lg 10).2.1) q < 16) : Runs mX1_byTrying 11 0 0 [vR 77, vR 1] N T (sa (sa (sa (sa v 81 Ld) 79 E) 80 Lg) 78 X) (some (vI (ttF ((clI (v 5) (v 8) E Lg 10).2.1) n ((sumN ((clI (v 5) (v 8) E Lg 10).2.1) n + 16 - 1) / 16) 10 (zlN Ld 10) 0 0 ((n : Nat) : Int)))) N T (sa (sa (sa (sa v 79 ((clI (v 5) (v 8) E Lg 10).1)) 80 ((clI (v 5) (v 8) E Lg 10).2.1)) 78 (rs X 2 (((clI (v 5) (v 8) E Lg 10).2.2 : Nat) : Int))) 81 (zlN Ld 10)) := by
  have hn10 := clI_bd (v 5) (v 8) E Lg 10
  rw [hn] at hn10
  have hLn : ∀ q, q < n → 0 ≤ ((clI (v 5) (v 8) E Lg 10).2.1) q ∧ ((clI (v 5) (v 8) E Lg 10).2.1) q < 16 := fun q hq => hL q (by rw [hn]; exact hq)
  have hsm := sumN_bd (g := ((clI (v 5) (v 8) E Lg 10).2.1)) (a := 15) (by decide) n (fun q hq => by have := hLn q hq; omega)
  have hz : ∀ b, b < 10 → 0 ≤ zlN Ld 10 b ∧ zlN Ld 10 b ≤ 16 := fun b hb => by unfold zlN; rw [if_pos hb]; decide
  refine Runs.of (by decide) (Nat.le_of_ble_eq_true rfl) fun κ C => ?_
  refine M_aload_n (pc := 0) C dX1_byTrying_0 rfl (by decide) ?_
  refine A_getR (pc := 1) C fl_X1_12 rfl (a := 77) (j := 78) rfl (tt_77 hT) rfl dX1_byTrying_1 ?_
  refine M_aload_n (pc := 4) C dX1_byTrying_4 rfl (by decide) ?_
  refine A_cVv (pc := 5) C (a := 78) (c := 5) (c_X5_collect_78 hT (v := sa v 81 Ld) (E := E) (Lg := Lg) (X := X) hD) yw_X5_collect lk_X1_28 rfl (congrArg Prod.fst (tt_78 hT)) hc_5 rfl dX1_byTrying_5 rfl (Nat.le_of_ble_eq_true rfl) (by decide) ⟨Nat.le_refl _, Nat.le_refl _⟩ ?_
  refine M.to (v2 := sa (sa (sa (sa v 79 ((clI (v 5) (v 8) E Lg 10).1)) 80 ((clI (v 5) (v 8) E Lg 10).2.1)) 78 (rs X 2 (((clI (v 5) (v 8) E Lg 10).2.2 : Nat) : Int))) 81 (zlN Ld 0)) ?_ rfl rfl (by rw [sa_sa1 (a := 81) (b := 79) (by decide), sa_sa1 (a := 81) (b := 80) (by decide), sa_sa1 (a := 81) (b := 78) (by decide), zlN_0] <;> rfl)
  refine M_iconst (pc := 8) C dX1_byTrying_8 ?_
  refine M_istore_n (pc := 9) C dX1_byTrying_9 (by decide) ?_
  refine loop_le (P := fun i => M κ N T 10 [some (vR 77), some (vR 1), some (vI ((i : Nat) : Int))] [] (sa (sa (sa (sa v 79 ((clI (v 5) (v 8) E Lg 10).1)) 80 ((clI (v 5) (v 8) E Lg 10).2.1)) 78 (rs X 2 (((clI (v 5) (v 8) E Lg 10).2.2 : Nat) : Int))) 81 (zlN Ld i)) 0 0 (QR κ (some (vI (ttF ((clI (v 5) (v 8) E Lg 10).2.1) n ((sumN ((clI (v 5) (v 8) E Lg 10).2.1) n + 16 - 1) / 16) 10 (zlN Ld 10) 0 0 ((n : Nat) : Int)))) N T (sa (sa (sa (sa v 79 ((clI (v 5) (v 8) E Lg 10).1)) 80 ((clI (v 5) (v 8) E Lg 10).2.1)) 78 (rs X 2 (((clI (v 5) (v 8) E Lg 10).2.2 : Nat) : Int))) 81 (zlN Ld 10)) 0 0)) 10 (fun i hi ih => ?_)
  refine M_iload_n (pc := 10) C dX1_byTrying_10 rfl ?_
  refine M_bipush (pc := 11) C (by decide) dX1_byTrying_11 ?_
  refine M_icmp_ge (pc := 13) C (tgt := 29) (by omega) (by omega) dX1_byTrying_13 (by decide) (fun h_13 => ?_) (fun h_13 => ?_)
  · have hi10 : i = 10 := by omega
    refine M.to (v2 := sa (sa (sa (sa v 79 ((clI (v 5) (v 8) E Lg 10).1)) 80 ((clI (v 5) (v 8) E Lg 10).2.1)) 78 (rs X 2 (((clI (v 5) (v 8) E Lg 10).2.2 : Nat) : Int))) 81 (zlN Ld 10)) ?_ rfl rfl (by rw [hi10])
    refine M_aload_n (pc := 29) C dX1_byTrying_29 rfl (by decide) ?_
    refine A_getR (pc := 30) C fl_X1_12 rfl (a := 77) (j := 78) rfl (tt_77 hT) rfl dX1_byTrying_30 ?_
    refine A_cV (pc := 33) C (x := vI (sumN ((clI (v 5) (v 8) E Lg 10).2.1) n)) (a := 78) (c := 5) (c_X5_cells_78 hT (v := sa (sa (sa (sa v 79 ((clI (v 5) (v 8) E Lg 10).1)) 80 ((clI (v 5) (v 8) E Lg 10).2.1)) 78 (rs X 2 (((clI (v 5) (v 8) E Lg 10).2.2 : Nat) : Int))) 81 (zlN Ld 10)) (n := n) (show rs X 2 (((clI (v 5) (v 8) E Lg 10).2.2 : Nat) : Int) 2 = ((n : Nat) : Int) by rw [rs_eq, hn]) hn10 (fun q _ hq => hLn q hq)) yw_X5_cells lk_X1_43 rfl (congrArg Prod.fst (tt_78 hT)) hc_5 rfl dX1_byTrying_33 rfl (Nat.le_of_ble_eq_true rfl) (by decide) ⟨Nat.le_refl _, Nat.le_refl _⟩ ?_
    refine M_bipush (pc := 36) C (by decide) dX1_byTrying_36 ?_
    refine M_iadd (pc := 38) C dX1_byTrying_38 ?_
    refine M_iconst (pc := 39) C dX1_byTrying_39 ?_
    refine M_isub (pc := 40) C dX1_byTrying_40 ?_
    refine M_bipush (pc := 41) C (by decide) dX1_byTrying_41 ?_
    refine M_idiv (pc := 43) C (by omega) (by decide) dX1_byTrying_43 ?_
    refine M_istore_n (pc := 44) C dX1_byTrying_44 (by decide) ?_
    refine M_aload_n (pc := 45) C dX1_byTrying_45 rfl (by decide) ?_
    refine A_getR (pc := 46) C fl_X1_12 rfl (a := 77) (j := 78) rfl (tt_77 hT) rfl dX1_byTrying_46 ?_
    refine M_aload_n (pc := 49) C dX1_byTrying_49 rfl (by decide) ?_
    refine A_getR (pc := 50) C fl_X1_18 rfl (a := 77) (j := 81) rfl (tt_77 hT) rfl dX1_byTrying_50 ?_
    refine M_iconst (pc := 53) C dX1_byTrying_53 ?_
    refine M_iconst (pc := 54) C dX1_byTrying_54 ?_
    refine M_aload_n (pc := 55) C dX1_byTrying_55 rfl (by decide) ?_
    refine A_getR (pc := 56) C fl_X1_12 rfl (a := 77) (j := 78) rfl (tt_77 hT) rfl dX1_byTrying_56 ?_
    refine A_getI (pc := 59) C fl_X1_32 rfl (a := 78) rfl (tt_78 hT) dX1_byTrying_59 (fun (r_59 : i32 ((rs X 2 (((clI (v 5) (v 8) E Lg 10).2.2 : Nat) : Int)) 2)) => ?_)
    refine M.to (pc := 62) (st2 := [vI ((rs X 2 (((clI (v 5) (v 8) E Lg 10).2.2 : Nat) : Int)) 2), vI 0, vI 0, vR 81, vR 78]) ?_ rfl rfl rfl
    refine M.to (st2 := [vI ((n : Nat) : Int), vI 0, vI 0, vR 81, vR 78]) ?_ rfl (by rw [rs_eq, hn]) rfl
    refine M_iload_n (pc := 62) C dX1_byTrying_62 rfl ?_
    refine A_cS (pc := 63) C (x := vI (ttF ((clI (v 5) (v 8) E Lg 10).2.1) n ((sumN ((clI (v 5) (v 8) E Lg 10).2.1) n + 16 - 1) / 16) 10 (zlN Ld 10) 0 0 ((n : Nat) : Int))) (c_X1_tryTail hT (v := sa (sa (sa v 79 ((clI (v 5) (v 8) E Lg 10).1)) 80 ((clI (v 5) (v 8) E Lg 10).2.1)) 78 (rs X 2 (((clI (v 5) (v 8) E Lg 10).2.2 : Nat) : Int))) (n := n) (least := (sumN ((clI (v 5) (v 8) E Lg 10).2.1) n + 16 - 1) / 16) (show rs X 2 (((clI (v 5) (v 8) E Lg 10).2.2 : Nat) : Int) 2 = ((n : Nat) : Int) by rw [rs_eq, hn]) hn10 hLn (by omega) 10 (zlN Ld 10) 0 0 ((n : Nat) : Int) hz (by omega) (by decide) (by decide) (by omega)) yw_X1_tryTail lk_X1_47 rfl dX1_byTrying_63 rfl (Nat.le_of_ble_eq_true rfl) (by decide) ⟨Nat.le_refl _, Nat.le_refl _⟩ ?_
    exact M_iret (pc := 66) C rfl dX1_byTrying_66 rfl rfl
  · refine M_aload_n (pc := 16) C dX1_byTrying_16 rfl (by decide) ?_
    refine A_getR (pc := 17) C fl_X1_18 rfl (a := 77) (j := 81) rfl (tt_77 hT) rfl dX1_byTrying_17 ?_
    refine M_iload_n (pc := 20) C dX1_byTrying_20 rfl ?_
    refine M_iconst (pc := 21) C dX1_byTrying_21 ?_
    refine A_iast (pc := 22) C (a := 81) (q := i) rfl (tt_81 hT) (by decide) rfl (by omega) (by omega) dX1_byTrying_22 ?_
    refine M.to (pc := 23) (v2 := sa (sa (sa (sa v 79 ((clI (v 5) (v 8) E Lg 10).1)) 80 ((clI (v 5) (v 8) E Lg 10).2.1)) 78 (rs X 2 (((clI (v 5) (v 8) E Lg 10).2.2 : Nat) : Int))) 81 (rs (zlN Ld i) i 0)) ?_ rfl rfl (by rw [sa_up0])
    refine M_iinc (pc := 23) C dX1_byTrying_23 rfl (by decide) ?_
    refine M_goto (pc := 26) C (tgt := 10) dX1_byTrying_26 (by decide) ?_
    exact M.to (ih (by omega)) rfl rfl (by rw [zlN_s])
