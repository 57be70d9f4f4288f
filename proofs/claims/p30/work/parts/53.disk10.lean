theorem c_X5_cells_78 {N : Nat} {T : Ty} {n : Nat} {v : Ct} (hT : TT T) (hx : v 78 2 = (n : Int)) (hn : n ≤ 10) (hL : ∀ q, q < 10 → q < n → 0 ≤ v 80 q ∧ v 80 q < 16) : Runs mX5_cells 0 0 0 [vR 78] N T v (some (vI (sumN (v 80) n))) N T v := by
  refine Runs.of (by decide) (Nat.le_of_ble_eq_true rfl) fun κ C => ?_
  refine M_iconst (pc := 0) C dX5_cells_0 ?_
  refine M_istore_n (pc := 1) C dX5_cells_1 (by decide) ?_
  refine M_iconst (pc := 2) C dX5_cells_2 ?_
  refine M_istore_n (pc := 3) C dX5_cells_3 (by decide) ?_
  refine loop_le (P := fun i => M κ N T 4 [some (vR 78), some (vI (sumN (v 80) i)), some (vI ((i : Nat) : Int))] [] v 0 0 (QR κ (some (vI (sumN (v 80) n))) N T v 0 0)) n (fun i hi ih => ?_)
  have hsb := sumN_bd (g := v 80) (a := 16) (by decide) i (fun q hq => by have := hL q (by omega) (by omega); omega)
  refine M_iload_n (pc := 4) C dX5_cells_4 rfl ?_
  refine M_aload_n (pc := 5) C dX5_cells_5 rfl (by decide) ?_
  refine A_getI (pc := 6) C fl_X5_18 rfl (a := 78) rfl (tt_78 hT) dX5_cells_6 (fun (r_6 : i32 (v 78 2)) => ?_)
  refine M.to (st2 := [vI ((n : Nat) : Int), vI ((i : Nat) : Int)]) ?_ rfl (by rw [hx]) rfl
  refine M_icmp_ge (pc := 9) C (tgt := 33) (by omega) (by omega) dX5_cells_9 (by decide) (fun h_9 => ?_) (fun h_9 => ?_)
  · refine M_iload_n (pc := 33) C dX5_cells_33 rfl ?_
    exact M_iret (pc := 34) C rfl dX5_cells_34 (by rw [show i = n by omega]) rfl
  · refine M_iload_n (pc := 12) C dX5_cells_12 rfl ?_
    refine M_bipush (pc := 13) C (by decide) dX5_cells_13 ?_
    refine M_icmp_ge (pc := 15) C (tgt := 33) (by omega) (by omega) dX5_cells_15 (by decide) (fun h_15 => ?_) (fun h_15 => ?_)
    · refine M_iload_n (pc := 33) C dX5_cells_33 rfl ?_
      exact M_iret (pc := 34) C rfl dX5_cells_34 (by rw [show i = n by omega]) rfl
    · refine M_iload_n (pc := 18) C dX5_cells_18 rfl ?_
      refine M_aload_n (pc := 19) C dX5_cells_19 rfl (by decide) ?_
      refine A_getR (pc := 20) C fl_X5_15 rfl (a := 78) (j := 80) rfl (tt_78 hT) rfl dX5_cells_20 ?_
      refine M_iload_n (pc := 23) C dX5_cells_23 rfl ?_
      refine A_iald (pc := 24) C (a := 80) (q := i) rfl (tt_80 hT) (by decide) rfl (by omega) dX5_cells_24 (fun (r_24 : i32 (v 80 i)) => ?_)
      refine M_iadd (pc := 25) C dX5_cells_25 ?_
      refine M_istore_n (pc := 26) C dX5_cells_26 (by decide) ?_
      refine M_iinc (pc := 27) C dX5_cells_27 rfl (by decide) ?_
      refine M_goto (pc := 30) C (tgt := 4) dX5_cells_30 (by decide) ?_
      exact M.to (ih (by omega)) (by rw [sumN_s rfl]; rfl) rfl rfl
theorem c_X4_firstWithRoom {N : Nat} {T : Ty} {w : Nat} {v : Ct} (hT : TT T) (hw : w < 16) (hF : ∀ b, b < 24 → 0 ≤ v 76 b ∧ v 76 b ≤ 16) : Runs mX4_firstWithRoom 0 0 0 [vR 70, vI ((w : Nat) : Int)] N T v (some (vI (firstN (fun b => decide (v 76 b + ((w : Nat) : Int) ≤ 16)) 24))) N T v := by
  refine Runs.of (by decide) (Nat.le_of_ble_eq_true rfl) fun κ C => ?_
  refine M_iconst (pc := 0) C dX4_firstWithRoom_0 ?_
  refine M_istore_n (pc := 1) C dX4_firstWithRoom_1 (by decide) ?_
  refine loop_le (P := fun i => (∀ j, j < i → (fun b => decide (v 76 b + ((w : Nat) : Int) ≤ 16)) j = false) → M κ N T 2 [some (vR 70), some (vI ((w : Nat) : Int)), some (vI ((i : Nat) : Int))] [] v 0 0 (QR κ (some (vI (firstN (fun b => decide (v 76 b + ((w : Nat) : Int) ≤ 16)) 24))) N T v 0 0)) 24 (fun i hi ih => ?_) (fun j hj => absurd hj (Nat.not_lt_zero j))
  intro hin
  refine M_iload_n (pc := 2) C dX4_firstWithRoom_2 rfl ?_
  refine M_bipush (pc := 3) C (by decide) dX4_firstWithRoom_3 ?_
  refine M_icmp_ge (pc := 5) C (tgt := 29) (by omega) (by omega) dX4_firstWithRoom_5 (by decide) (fun h_5 => ?_) (fun h_5 => ?_)
  · refine M_iconst (pc := 29) C dX4_firstWithRoom_29 ?_
    exact M_iret (pc := 30) C rfl dX4_firstWithRoom_30 (by first | (rw [show firstN (fun b => decide (v 76 b + ((w : Nat) : Int) ≤ 16)) 24 = i from firstN_at (p := (fun b => decide (v 76 b + ((w : Nat) : Int) ≤ 16))) hin (decide_eq_true (by omega)) (by omega)]) | (rw [show firstN (fun b => decide (v 76 b + ((w : Nat) : Int) ≤ 16)) 24 = -1 from firstN_none (p := (fun b => decide (v 76 b + ((w : Nat) : Int) ≤ 16))) (fun j hj => hin j (by omega))])) rfl
  · have hFi := hF i (by omega)
    refine M_aload_n (pc := 8) C dX4_firstWithRoom_8 rfl (by decide) ?_
    refine A_getR (pc := 9) C fl_X4_25 rfl (a := 70) (j := 76) rfl (tt_70 hT) rfl dX4_firstWithRoom_9 ?_
    refine M_iload_n (pc := 12) C dX4_firstWithRoom_12 rfl ?_
    refine A_iald (pc := 13) C (a := 76) (q := i) rfl (tt_76 hT) (by decide) rfl (by omega) dX4_firstWithRoom_13 (fun (r_13 : i32 (v 76 i)) => ?_)
    refine M_iload_n (pc := 14) C dX4_firstWithRoom_14 rfl ?_
    refine M_iadd (pc := 15) C dX4_firstWithRoom_15 ?_
    refine M_bipush (pc := 16) C (by decide) dX4_firstWithRoom_16 ?_
    refine M_icmp_gt (pc := 18) C (tgt := 23) (by omega) (by omega) dX4_firstWithRoom_18 (by decide) (fun h_18 => ?_) (fun h_18 => ?_)
    · refine M_iinc (pc := 23) C dX4_firstWithRoom_23 rfl (by decide) ?_
      refine M_goto (pc := 26) C (tgt := 2) dX4_firstWithRoom_26 (by decide) ?_
      exact M.to (ih (by omega) (fun j hj => by by_cases e : j = i; (rw [e]; exact decide_eq_false (by omega)); exact hin j (by omega))) rfl rfl rfl
    · refine M_iload_n (pc := 21) C dX4_firstWithRoom_21 rfl ?_
      exact M_iret (pc := 22) C rfl dX4_firstWithRoom_22 (by first | (rw [show firstN (fun b => decide (v 76 b + ((w : Nat) : Int) ≤ 16)) 24 = i from firstN_at (p := (fun b => decide (v 76 b + ((w : Nat) : Int) ≤ 16))) hin (decide_eq_true (by omega)) (by omega)]) | (rw [show firstN (fun b => decide (v 76 b + ((w : Nat) : Int) ≤ 16)) 24 = -1 from firstN_none (p := (fun b => decide (v 76 b + ((w : Nat) : Int) ≤ 16))) (fun j hj => hin j (by omega))])) rfl
theorem c_X4_emptyBlocks {N : Nat} {T : Ty} {v : Ct} (hT : TT T)  : Runs mX4_emptyBlocks 0 0 0 [vR 70] N T v (some (vI (sumN (fun b => Bi (decide (v 76 b = 0))) 24))) N T v := by
  refine Runs.of (by decide) (Nat.le_of_ble_eq_true rfl) fun κ C => ?_
  refine M_iconst (pc := 0) C dX4_emptyBlocks_0 ?_
  refine M_istore_n (pc := 1) C dX4_emptyBlocks_1 (by decide) ?_
  refine M_iconst (pc := 2) C dX4_emptyBlocks_2 ?_
  refine M_istore_n (pc := 3) C dX4_emptyBlocks_3 (by decide) ?_
  refine loop_le (P := fun i => M κ N T 4 [some (vR 70), some (vI (sumN (fun b => Bi (decide (v 76 b = 0))) i)), some (vI ((i : Nat) : Int))] [] v 0 0 (QR κ (some (vI (sumN (fun b => Bi (decide (v 76 b = 0))) 24))) N T v 0 0)) 24 (fun i hi ih => ?_)
  have hsb := sumN_bd (g := fun b => Bi (decide (v 76 b = 0))) (a := 1) (by decide) i (fun f _ => Bi_bd _)
  refine M_iload_n (pc := 4) C dX4_emptyBlocks_4 rfl ?_
  refine M_bipush (pc := 5) C (by decide) dX4_emptyBlocks_5 ?_
  refine M_icmp_ge (pc := 7) C (tgt := 33) (by omega) (by omega) dX4_emptyBlocks_7 (by decide) (fun h_7 => ?_) (fun h_7 => ?_)
  · refine M_iload_n (pc := 33) C dX4_emptyBlocks_33 rfl ?_
    exact M_iret (pc := 34) C rfl dX4_emptyBlocks_34 (by rw [show i = 24 by omega]) rfl
  · refine M_iload_n (pc := 10) C dX4_emptyBlocks_10 rfl ?_
    refine M_aload_n (pc := 11) C dX4_emptyBlocks_11 rfl (by decide) ?_
    refine A_getR (pc := 12) C fl_X4_25 rfl (a := 70) (j := 76) rfl (tt_70 hT) rfl dX4_emptyBlocks_12 ?_
    refine M_iload_n (pc := 15) C dX4_emptyBlocks_15 rfl ?_
    refine A_iald (pc := 16) C (a := 76) (q := i) rfl (tt_76 hT) (by decide) rfl (by omega) dX4_emptyBlocks_16 (fun (r_16 : i32 (v 76 i)) => ?_)
    refine T_if_ne (pc := 17) C (by omega) dX4_emptyBlocks_17 dX4_emptyBlocks_20 dX4_emptyBlocks_21 dX4_emptyBlocks_24 ?_
    refine M_iadd (pc := 25) C dX4_emptyBlocks_25 ?_
    refine M_istore_n (pc := 26) C dX4_emptyBlocks_26 (by decide) ?_
    refine M_iinc (pc := 27) C dX4_emptyBlocks_27 rfl (by decide) ?_
    refine M_goto (pc := 30) C (tgt := 4) dX4_emptyBlocks_30 (by decide) ?_
    exact M.to (ih (by omega)) (by first | (rw [sumN_s rfl]; rfl) | (rw [sumN_s (x := 1) (by rw [decide_eq_true (by omega)]; rfl)]; rfl) | (rw [sumN_s (x := 0) (by rw [decide_eq_false (by omega)]; rfl)]; rfl)) rfl rfl
