theorem c_X3_readable {N : Nat} {T : Ty} {D : Nat → Int} {n : Nat} {v : Ct} (hT : TT T) (hx : v 67 1 = (n : Int)) (hn : n ≤ 60) : Runs mX3_readable 3 0 0 [vR 69, vR 67] N T (sa v 69 D) (some (vI (rdV (v 68) D n))) N T (sa v 69 (rdE (v 68) D n)) := by
  refine Runs.of (by decide) (Nat.le_of_ble_eq_true rfl) fun κ C => ?_
  refine M_aload_n (pc := 0) C dX3_readable_0 rfl (by decide) ?_
  refine A_cVv (pc := 1) C (a := 69) (c := 3) (c_X3_begin hT (v := v) (D := D)) yw_X3_begin lk_X3_24 rfl (congrArg Prod.fst (tt_69 hT)) hc_3 rfl dX3_readable_1 rfl (Nat.le_of_ble_eq_true rfl) (by decide) ⟨Nat.le_refl _, Nat.le_refl _⟩ ?_
  refine M_iconst (pc := 4) C dX3_readable_4 ?_
  refine M_istore_n (pc := 5) C dX3_readable_5 (by decide) ?_
  refine loop_le (P := fun i => (∀ j, j < i → rdB (v 68) D j = false) → M κ N T 6 [some (vR 69), some (vR 67), some (vI ((i : Nat) : Int))] [] (sa v 69 (rdD (v 68) D i)) 0 0 (QR κ (some (vI (rdV (v 68) D n))) N T (sa v 69 (rdE (v 68) D n)) 0 0)) n (fun i hi ih => ?_) (fun j hj => absurd hj (Nat.not_lt_zero j))
  intro hin
  have hok := rdD_ok (v 68) D i
  have hok1 := hok.1
  refine M_iload_n (pc := 6) C dX3_readable_6 rfl ?_
  refine M_aload_n (pc := 7) C dX3_readable_7 rfl (by decide) ?_
  refine A_cV (pc := 8) C (x := vI (v 67 1)) (a := 67) (c := 6) (c_X6_length hT (v := sa v 69 (rdD (v 68) D i))) yw_X6_length lk_X3_27 rfl (congrArg Prod.fst (tt_67 hT)) hc_6 rfl dX3_readable_8 rfl (Nat.le_of_ble_eq_true rfl) (by decide) ⟨Nat.le_refl _, Nat.le_refl _⟩ ?_
  refine M_rd (pc := 11) C 67 1 (fun (r_8_0 : i32 (v 67 1)) => ?_)
  refine M.to (st2 := [vI ((n : Nat) : Int), vI ((i : Nat) : Int)]) ?_ rfl (by rw [← hx] <;> rfl) rfl
  refine M_icmp_ge (pc := 11) C (tgt := 34) (by omega) (by omega) dX3_readable_11 (by decide) (fun h_11 => ?_) (fun h_11 => ?_)
  · have hin2 : i = n := by omega
    have hF : rdF (v 68) D n = -1 := firstN_none (p := rdB (v 68) D) (fun j hj => hin j (by omega))
    refine M_aload_n (pc := 34) C dX3_readable_34 rfl (by decide) ?_
    refine A_cV (pc := 35) C (x := vI (v 67 1)) (a := 67) (c := 6) (c_X6_length hT (v := sa v 69 (rdD (v 68) D i))) yw_X6_length lk_X3_27 rfl (congrArg Prod.fst (tt_67 hT)) hc_6 rfl dX3_readable_35 rfl (Nat.le_of_ble_eq_true rfl) (by decide) ⟨Nat.le_refl _, Nat.le_refl _⟩ ?_
    refine M_rd (pc := 38) C 67 1 (fun (r_35_0 : i32 (v 67 1)) => ?_)
    exact M_iret (pc := 38) C rfl dX3_readable_38 (by unfold rdV; rw [hF, if_pos rfl, ← hx] <;> rfl) (by unfold rdE; rw [hF, if_pos rfl, hin2])
  · refine M_aload_n (pc := 14) C dX3_readable_14 rfl (by decide) ?_
    refine M_aload_n (pc := 15) C dX3_readable_15 rfl (by decide) ?_
    refine M_iload_n (pc := 16) C dX3_readable_16 rfl ?_
    refine A_cV (pc := 17) C (x := vI (if 0 ≤ ((i : Nat) : Int) ∧ ((i : Nat) : Int) < ((n : Nat) : Int) then v 68 ((i : Nat) : Int).toNat else -1)) (a := 67) (c := 6) (c_X6_codeAt hT (v := sa v 69 (rdD (v 68) D i)) (a := ((i : Nat) : Int)) (n := n) hx hn (by omega)) yw_X6_codeAt lk_X3_33 rfl (congrArg Prod.fst (tt_67 hT)) hc_6 rfl dX3_readable_17 rfl (Nat.le_of_ble_eq_true rfl) (by decide) ⟨Nat.le_refl _, Nat.le_refl _⟩ ?_
    refine M.to (st2 := [vI (v 68 i), vR 69]) ?_ rfl (by rw [if_pos ⟨by omega, by omega⟩] <;> rfl) rfl
    refine M_rd (pc := 20) C 68 i (fun (r_cd : i32 (v 68 i)) => ?_)
    refine A_cV (pc := 20) C (x := vI (Bi (oTb (rdD (v 68) D i) ((rdD (v 68) D i) 0).toNat (v 68 i)))) (a := 69) (c := 3) (c_X3_take hT (v := v) (D := rdD (v 68) D i) (c := v 68 i) (d := ((rdD (v 68) D i) 0).toNat) r_cd (by omega) (by omega) (fun q => hok.2 (by omega))) yw_X3_take lk_X3_37 rfl (congrArg Prod.fst (tt_69 hT)) hc_3 rfl dX3_readable_20 rfl (Nat.le_of_ble_eq_true rfl) (by decide) ⟨Nat.le_refl _, Nat.le_refl _⟩ ?_
    refine M_if_ne (pc := 23) C (tgt := 28) (Bi_i32 _) dX3_readable_23 (by decide) (fun h_23 => ?_) (fun h_23 => ?_)
    · have b_23 := Bi_ne0 h_23
      have hq : rdB (v 68) D i = false := by unfold rdB; rw [b_23]; rfl
      refine M_iinc (pc := 28) C dX3_readable_28 rfl (by decide) ?_
      refine M_goto (pc := 31) C (tgt := 6) dX3_readable_31 (by decide) ?_
      exact M.to (ih (by omega) (fun j hj => if e : j = i then (by rw [e]; exact hq) else hin j (by omega))) rfl rfl rfl
    · have b_23 := Bi_eq0 h_23
      have hq : rdB (v 68) D i = true := by unfold rdB; rw [b_23]; rfl
      have hF : rdF (v 68) D n = ((i : Nat) : Int) := firstN_at (p := rdB (v 68) D) hin hq (by omega)
      refine M_iload_n (pc := 26) C dX3_readable_26 rfl ?_
      exact M_iret (pc := 27) C rfl dX3_readable_27 (by unfold rdV; rw [hF, if_neg (by omega)]) (by unfold rdE; rw [hF, if_neg (by omega)] <;> rfl)
