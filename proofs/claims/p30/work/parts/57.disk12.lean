theorem c_X4_carryOut {N : Nat} {T : Ty} {P W S B Z Rk O K G : Nat → Int} {n : Nat} {v : Ct} (hT : TT T) (hD : DI Z B S W) (hx : v 71 2 = (n : Int)) (hn : n ≤ 10) (hO : ∀ q, q < n → coOk (v 72) (v 74) (v 75) Z q) : Runs mX4_carryOut 2 0 0 [vR 70, vR 1] N T (sa (sa (sa (sa (sa (sa (sa (sa (sa v 9 P) 8 W) 7 S) 6 B) 5 Z) 4 Rk) 3 O) 2 K) 1 G) none N T (sa (sa (sa (sa (sa (sa (sa (sa (sa v 9 ((coI (v 72) (v 74) (v 75) P S B K n).1)) 8 W) 7 ((coI (v 72) (v 74) (v 75) P S B K n).2.1)) 6 ((coI (v 72) (v 74) (v 75) P S B K n).2.2.1)) 5 Z) 4 Rk) 3 O) 2 (feI (coI (v 72) (v 74) (v 75) P S B K n).2.2.2 Z (coI (v 72) (v 74) (v 75) P S B K n).2.2.1 (coI (v 72) (v 74) (v 75) P S B K n).2.1 24)) 1 (rs G 9 (wr (G 9 + 1)))) := by
  refine Runs.of (by decide) (Nat.le_of_ble_eq_true rfl) fun κ C => ?_
  refine M_iconst (pc := 0) C dX4_carryOut_0 ?_
  refine M_istore_n (pc := 1) C dX4_carryOut_1 (by decide) ?_
  refine loop_le (P := fun i => M κ N T 2 [some (vR 70), some (vR 1), some (vI ((i : Nat) : Int))] [] (sa (sa (sa (sa (sa (sa (sa (sa (sa v 9 ((coI (v 72) (v 74) (v 75) P S B K i).1)) 8 W) 7 ((coI (v 72) (v 74) (v 75) P S B K i).2.1)) 6 ((coI (v 72) (v 74) (v 75) P S B K i).2.2.1)) 5 Z) 4 Rk) 3 O) 2 ((coI (v 72) (v 74) (v 75) P S B K i).2.2.2)) 1 G) 0 0 (QR κ none N T (sa (sa (sa (sa (sa (sa (sa (sa (sa v 9 ((coI (v 72) (v 74) (v 75) P S B K n).1)) 8 W) 7 ((coI (v 72) (v 74) (v 75) P S B K n).2.1)) 6 ((coI (v 72) (v 74) (v 75) P S B K n).2.2.1)) 5 Z) 4 Rk) 3 O) 2 (feI (coI (v 72) (v 74) (v 75) P S B K n).2.2.2 Z (coI (v 72) (v 74) (v 75) P S B K n).2.2.1 (coI (v 72) (v 74) (v 75) P S B K n).2.1 24)) 1 (rs G 9 (wr (G 9 + 1)))) 0 0)) n (fun i hi ih => ?_)
  have hDi := coI_DI (P := P) (K := K) hD hO i hi
  refine M_iload_n (pc := 2) C dX4_carryOut_2 rfl ?_
  refine M_aload_n (pc := 3) C dX4_carryOut_3 rfl (by decide) ?_
  refine A_getR (pc := 4) C fl_X4_12 rfl (a := 70) (j := 71) rfl (tt_70 hT) rfl dX4_carryOut_4 ?_
  refine A_getI (pc := 7) C fl_X4_38 rfl (a := 71) rfl (tt_71 hT) dX4_carryOut_7 (fun (r_7 : i32 (v 71 2)) => ?_)
  refine M.to (pc := 10) (st2 := [vI (v 71 2), vI ((i : Nat) : Int)]) ?_ rfl rfl rfl
  refine M.to (st2 := [vI ((n : Nat) : Int), vI ((i : Nat) : Int)]) ?_ rfl (by rw [← hx] <;> rfl) rfl
  refine M_icmp_ge (pc := 10) C (tgt := 50) (by omega) (by omega) dX4_carryOut_10 (by decide) (fun h_10 => ?_) (fun h_10 => ?_)
  · have hin : i = n := by omega
    rw [hin] at hDi ⊢
    refine M_iconst (pc := 50) C dX4_carryOut_50 ?_
    refine M_istore_n (pc := 51) C dX4_carryOut_51 (by decide) ?_
    refine loop_le (P := fun k => M κ N T 52 [some (vR 70), some (vR 1), some (vI ((k : Nat) : Int))] [] (sa (sa (sa (sa (sa (sa (sa (sa (sa v 9 ((coI (v 72) (v 74) (v 75) P S B K n).1)) 8 W) 7 ((coI (v 72) (v 74) (v 75) P S B K n).2.1)) 6 ((coI (v 72) (v 74) (v 75) P S B K n).2.2.1)) 5 Z) 4 Rk) 3 O) 2 (feI (coI (v 72) (v 74) (v 75) P S B K n).2.2.2 Z (coI (v 72) (v 74) (v 75) P S B K n).2.2.1 (coI (v 72) (v 74) (v 75) P S B K n).2.1 k)) 1 G) 0 0 (QR κ none N T (sa (sa (sa (sa (sa (sa (sa (sa (sa v 9 ((coI (v 72) (v 74) (v 75) P S B K n).1)) 8 W) 7 ((coI (v 72) (v 74) (v 75) P S B K n).2.1)) 6 ((coI (v 72) (v 74) (v 75) P S B K n).2.2.1)) 5 Z) 4 Rk) 3 O) 2 (feI (coI (v 72) (v 74) (v 75) P S B K n).2.2.2 Z (coI (v 72) (v 74) (v 75) P S B K n).2.2.1 (coI (v 72) (v 74) (v 75) P S B K n).2.1 24)) 1 (rs G 9 (wr (G 9 + 1)))) 0 0)) 24 (fun k hk ihk => ?_)
    refine M_iload_n (pc := 52) C dX4_carryOut_52 rfl ?_
    refine M_bipush (pc := 53) C (by decide) dX4_carryOut_53 ?_
    refine M_icmp_ge (pc := 55) C (tgt := 70) (by omega) (by omega) dX4_carryOut_55 (by decide) (fun h_55 => ?_) (fun h_55 => ?_)
    · have hk24 : k = 24 := by omega
      subst hk24
      refine M_aload_n (pc := 70) C dX4_carryOut_70 rfl (by decide) ?_
      refine M_dup (pc := 71) C rfl dX4_carryOut_71 ?_
      refine A_getI (pc := 72) C fl_X4_66 rfl (a := 1) rfl (tt_1 hT) dX4_carryOut_72 (fun (r_72 : i32 (G 9)) => ?_)
      refine M.to (pc := 75) (st2 := [vI (G 9), vR 1]) ?_ rfl rfl rfl
      refine M_iconst (pc := 75) C dX4_carryOut_75 ?_
      refine M_iadd (pc := 76) C dX4_carryOut_76 ?_
      refine M_wr (pc := 77) ?_
      refine A_putI (pc := 77) C fl_X4_66 rfl (by decide) (a := 1) rfl (tt_1 hT) (wr_i32 _) dX4_carryOut_77 ?_
      refine M.to (pc := 80) (v2 := sa (sa (sa (sa (sa (sa (sa (sa (sa v 9 ((coI (v 72) (v 74) (v 75) P S B K n).1)) 8 W) 7 ((coI (v 72) (v 74) (v 75) P S B K n).2.1)) 6 ((coI (v 72) (v 74) (v 75) P S B K n).2.2.1)) 5 Z) 4 Rk) 3 O) 2 (feI (coI (v 72) (v 74) (v 75) P S B K n).2.2.2 Z (coI (v 72) (v 74) (v 75) P S B K n).2.2.1 (coI (v 72) (v 74) (v 75) P S B K n).2.1 24)) 1 (rs G 9 (wr ((G 9) + 1)))) ?_ rfl rfl (by rw [sa_up0])
      exact M_vret (pc := 80) C rfl dX4_carryOut_80 rfl rfl
    · refine M_aload_n (pc := 58) C dX4_carryOut_58 rfl (by decide) ?_
      refine M_iload_n (pc := 59) C dX4_carryOut_59 rfl ?_
      refine A_cV (pc := 60) C (x := vI (feV (feI (coI (v 72) (v 74) (v 75) P S B K n).2.2.2 Z (coI (v 72) (v 74) (v 75) P S B K n).2.2.1 (coI (v 72) (v 74) (v 75) P S B K n).2.1 k) Z ((coI (v 72) (v 74) (v 75) P S B K n).2.2.1) ((coI (v 72) (v 74) (v 75) P S B K n).2.1) k)) (a := 1) (c := 0) (c_X0_freeIfEmpty hT (v := v) (P := (coI (v 72) (v 74) (v 75) P S B K n).1) (W := W) (S := (coI (v 72) (v 74) (v 75) P S B K n).2.1) (B := (coI (v 72) (v 74) (v 75) P S B K n).2.2.1) (Z := Z) (Rk := Rk) (O := O) (K := feI (coI (v 72) (v 74) (v 75) P S B K n).2.2.2 Z (coI (v 72) (v 74) (v 75) P S B K n).2.2.1 (coI (v 72) (v 74) (v 75) P S B K n).2.1 k) (G := G) (b := k) hDi (by omega)) yw_X0_freeIfEmpty lk_X4_63 rfl (congrArg Prod.fst (tt_1 hT)) hc_0 rfl dX4_carryOut_60 rfl (Nat.le_of_ble_eq_true rfl) (by decide) ⟨Nat.le_refl _, Nat.le_refl _⟩ ?_
      refine M_pop (pc := 63) C rfl dX4_carryOut_63 ?_
      refine M_iinc (pc := 64) C dX4_carryOut_64 rfl (by decide) ?_
      refine M_goto (pc := 67) C (tgt := 52) dX4_carryOut_67 (by decide) ?_
      exact M.to (ihk (by omega)) rfl rfl rfl
  · refine M_iload_n (pc := 13) C dX4_carryOut_13 rfl ?_
    refine M_bipush (pc := 14) C (by decide) dX4_carryOut_14 ?_
    refine M_icmp_ge (pc := 16) C (tgt := 50) (by omega) (by omega) dX4_carryOut_16 (by decide) (fun h_16 => ?_) (fun h_16 => ?_)
    · exfalso
      omega
    · obtain ⟨⟨h1, h2⟩, h3, ⟨h4, h5⟩, h6, h7⟩ := hO i (by omega)
      obtain ⟨f, hf⟩ : ∃ f : Nat, v 72 i = (f : Int) := ⟨(v 72 i).toNat, by omega⟩
      obtain ⟨b, hb⟩ : ∃ b : Nat, v 74 i = (b : Int) := ⟨(v 74 i).toNat, by omega⟩
      obtain ⟨s, hs⟩ : ∃ s : Nat, v 75 i = (s : Int) := ⟨(v 75 i).toNat, by omega⟩
      rw [hf, Int.toNat_natCast] at h3 h7
      have hz : Z f ≠ -1 := by omega
      have hE : sa (sa (sa (sa (sa (sa (sa (sa (sa v 9 ((coI (v 72) (v 74) (v 75) P S B K (i + 1)).1)) 8 W) 7 ((coI (v 72) (v 74) (v 75) P S B K (i + 1)).2.1)) 6 ((coI (v 72) (v 74) (v 75) P S B K (i + 1)).2.2.1)) 5 Z) 4 Rk) 3 O) 2 ((coI (v 72) (v 74) (v 75) P S B K (i + 1)).2.2.2)) 1 G = sa (sa (sa (sa (sa (sa (sa (sa (sa v 9 (rs (coI (v 72) (v 74) (v 75) P S B K i).1 f (wr ((coI (v 72) (v 74) (v 75) P S B K i).1 f + 1)))) 8 W) 7 (rs (coI (v 72) (v 74) (v 75) P S B K i).2.1 f ((s : Nat) : Int))) 6 (rs (coI (v 72) (v 74) (v 75) P S B K i).2.2.1 f ((b : Nat) : Int))) 5 Z) 4 Rk) 3 O) 2 (rs (coI (v 72) (v 74) (v 75) P S B K i).2.2.2 b 2)) 1 G := by rw [coI_s hf hb hs]
      refine M_aload_n (pc := 19) C dX4_carryOut_19 rfl (by decide) ?_
      refine M_aload_n (pc := 20) C dX4_carryOut_20 rfl (by decide) ?_
      refine A_getR (pc := 21) C fl_X4_12 rfl (a := 70) (j := 71) rfl (tt_70 hT) rfl dX4_carryOut_21 ?_
      refine A_getR (pc := 24) C fl_X4_56 rfl (a := 71) (j := 72) rfl (tt_71 hT) rfl dX4_carryOut_24 ?_
      refine M_iload_n (pc := 27) C dX4_carryOut_27 rfl ?_
      refine A_iald (pc := 28) C (a := 72) (q := i) rfl (tt_72 hT) (by decide) rfl (by omega) dX4_carryOut_28 (fun (r_28 : i32 (v 72 i)) => ?_)
      refine M.to (pc := 29) (st2 := [vI (v 72 i), vR 1]) ?_ rfl rfl rfl
      refine M.to (st2 := [vI ((f : Nat) : Int), vR 1]) ?_ rfl (by rw [← hf] <;> rfl) rfl
      refine M_aload_n (pc := 29) C dX4_carryOut_29 rfl (by decide) ?_
      refine A_getR (pc := 30) C fl_X4_18 rfl (a := 70) (j := 74) rfl (tt_70 hT) rfl dX4_carryOut_30 ?_
      refine M_iload_n (pc := 33) C dX4_carryOut_33 rfl ?_
      refine A_iald (pc := 34) C (a := 74) (q := i) rfl (tt_74 hT) (by decide) rfl (by omega) dX4_carryOut_34 (fun (r_34 : i32 (v 74 i)) => ?_)
      refine M.to (pc := 35) (st2 := [vI (v 74 i), vI ((f : Nat) : Int), vR 1]) ?_ rfl rfl rfl
      refine M.to (st2 := [vI ((b : Nat) : Int), vI ((f : Nat) : Int), vR 1]) ?_ rfl (by rw [← hb] <;> rfl) rfl
      refine M_aload_n (pc := 35) C dX4_carryOut_35 rfl (by decide) ?_
      refine A_getR (pc := 36) C fl_X4_22 rfl (a := 70) (j := 75) rfl (tt_70 hT) rfl dX4_carryOut_36 ?_
      refine M_iload_n (pc := 39) C dX4_carryOut_39 rfl ?_
      refine A_iald (pc := 40) C (a := 75) (q := i) rfl (tt_75 hT) (by decide) rfl (by omega) dX4_carryOut_40 (fun (r_40 : i32 (v 75 i)) => ?_)
      refine M.to (pc := 41) (st2 := [vI (v 75 i), vI ((b : Nat) : Int), vI ((f : Nat) : Int), vR 1]) ?_ rfl rfl rfl
      refine M.to (st2 := [vI ((s : Nat) : Int), vI ((b : Nat) : Int), vI ((f : Nat) : Int), vR 1]) ?_ rfl (by rw [← hs] <;> rfl) rfl
      refine A_cVv (pc := 41) C (a := 1) (c := 0) (c_X0_putTail hT (v := v) (P := (coI (v 72) (v 74) (v 75) P S B K i).1) (W := W) (S := (coI (v 72) (v 74) (v 75) P S B K i).2.1) (B := (coI (v 72) (v 74) (v 75) P S B K i).2.2.1) (Z := Z) (Rk := Rk) (O := O) (K := (coI (v 72) (v 74) (v 75) P S B K i).2.2.2) (G := G) (f := f) (b := b) (s := s) (by omega) hz (by omega) (by omega)) yw_X0_putTail lk_X4_59 rfl (congrArg Prod.fst (tt_1 hT)) hc_0 rfl dX4_carryOut_41 rfl (Nat.le_of_ble_eq_true rfl) (by decide) ⟨Nat.le_refl _, Nat.le_refl _⟩ ?_
      refine M_iinc (pc := 44) C dX4_carryOut_44 rfl (by decide) ?_
      refine M_goto (pc := 47) C (tgt := 2) dX4_carryOut_47 (by decide) ?_
      exact M.to (ih (by omega)) rfl rfl (by rw [hE])
