theorem c_X7_greatest {N : Nat} {T : Ty} {v : Ct} (hT : TT T) (hD : DI (v 5) (v 6) (v 7) (v 8)) : Runs mX7_greatest 4 0 0 [vR 0] N T v (some (vI (gsV (v 2) (v 5) (v 6) (v 7)))) N T v := by
  refine Runs.of (by decide) (Nat.le_of_ble_eq_true rfl) fun κ C => ?_
  refine M_sipush (pc := 0) C (by decide) dX7_greatest_0 ?_
  refine M_istore_n (pc := 3) C dX7_greatest_3 (by decide) ?_
  refine loop_le (P := fun i => (∀ j, j < i → (fun i => hrB (v 2) (v 5) (v 6) (v 7) (200 - (i : Int))) j = false) → M κ N T 4 [some (vR 0), some (vI (200 - ((i : Nat) : Int)))] [] v 0 0 (QR κ (some (vI (gsV (v 2) (v 5) (v 6) (v 7)))) N T v 0 0)) 201 (fun i hi ih => ?_) (fun j hj => absurd hj (Nat.not_lt_zero j))
  intro hin
  refine M_iload_n (pc := 4) C dX7_greatest_4 rfl ?_
  refine M_if_lt (pc := 5) C (tgt := 27) (by omega) dX7_greatest_5 (by decide) (fun h_5 => ?_) (fun h_5 => ?_)
  · refine M_iconst (pc := 27) C dX7_greatest_27 ?_
    exact M_iret (pc := 28) C rfl dX7_greatest_28 (by unfold gsV; rw [if_pos (firstN_none (p := (fun i => hrB (v 2) (v 5) (v 6) (v 7) (200 - (i : Int)))) (fun j hj => hin j (by omega)))]) rfl
  · refine M_aload_n (pc := 8) C dX7_greatest_8 rfl (by decide) ?_
    refine A_getR (pc := 9) C fl_X7_12 rfl (a := 0) (j := 1) rfl (tt_0 hT) rfl dX7_greatest_9 ?_
    refine M_iload_n (pc := 12) C dX7_greatest_12 rfl ?_
    refine A_cV (pc := 13) C (x := vI (Bi (hrB (v 2) (v 5) (v 6) (v 7) (200 - ((i : Nat) : Int))))) (a := 1) (c := 0) (c_X0_hasRoomFor hT hD (s := 200 - ((i : Nat) : Int)) (by omega)) yw_X0_hasRoomFor lk_X7_204 rfl (congrArg Prod.fst (tt_1 hT)) hc_0 rfl dX7_greatest_13 rfl (Nat.le_of_ble_eq_true rfl) (by decide) ⟨Nat.le_refl _, Nat.le_refl _⟩ ?_
    refine M_if_eq (pc := 16) C (tgt := 21) (Bi_i32 _) dX7_greatest_16 (by decide) (fun h_16 => ?_) (fun h_16 => ?_)
    · have b_16 := Bi_eq0 h_16
      refine M_iinc (pc := 21) C dX7_greatest_21 rfl (by decide) ?_
      refine M_goto (pc := 24) C (tgt := 4) dX7_greatest_24 (by decide) ?_
      exact M.to (ih (by omega) (fun j hj => if e : j = i then (by rw [e]; exact b_16) else hin j (by omega))) (by show [some (vR 0), some (vI (200 - ((i : Nat) : Int) + (-1)))] = _; rw [show 200 - ((i : Nat) : Int) + (-1) = 200 - ((i + 1 : Nat) : Int) by omega]) rfl rfl
    · have b_16 := Bi_ne0 h_16
      refine M_iload_n (pc := 19) C dX7_greatest_19 rfl ?_
      exact M_iret (pc := 20) C rfl dX7_greatest_20 (by unfold gsV; rw [show firstN (fun i => hrB (v 2) (v 5) (v 6) (v 7) (200 - (i : Int))) 201 = i from firstN_at (p := (fun i => hrB (v 2) (v 5) (v 6) (v 7) (200 - (i : Int)))) hin b_16 (by omega), if_neg (by omega)]) rfl
