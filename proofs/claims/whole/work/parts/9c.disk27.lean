theorem rdV_le (U D : Nat → Int) (n : Nat) : -1 ≤ rdV U D n ∧ rdV U D n ≤ n := by
  have h := firstN_bd (rdB U D) n
  unfold rdV rdF
  split <;> omega
theorem t_X7_checkArgument {N : Nat} {T : Ty} {x a b : Int} {v : Ct} (hT : TT T) (hx : i32 x) (ha : i32 a) (hb : i32 b) (h : ¬ (a ≤ x ∧ x ≤ b)) : Thr mX7_checkArgument 6 1 6 [vI x, vI a, vI b] N T v "java/lang/IllegalArgumentException" (fun v1 => v1 = v) := by
  refine Thr.of (by decide) (Nat.le_of_ble_eq_true rfl) fun κ C hn => ?_
  refine M_iload_n (pc := 0) C dX7_checkArgument_0 rfl ?_
  refine M_iload_n (pc := 1) C dX7_checkArgument_1 rfl ?_
  refine M_icmp_lt (pc := 2) C (tgt := 10) (by omega) (by omega) dX7_checkArgument_2 (by decide) (fun h_2 => ?_) (fun h_2 => ?_)
  · exact M_thrW (pc := 10) C hn tw_ia rfl (show ((293 : Nat), "an argument is out of range") ∈ strs by decide) dX7_checkArgument_10 dX7_checkArgument_13 dX7_checkArgument_14 dX7_checkArgument_17 dX7_checkArgument_20 (by decide) (Nat.le_of_ble_eq_true rfl) ⟨by decide, by decide⟩ (Nat.le_refl _) rfl
  · refine M_iload_n (pc := 5) C dX7_checkArgument_5 rfl ?_
    refine M_iload_n (pc := 6) C dX7_checkArgument_6 rfl ?_
    refine M_icmp_le (pc := 7) C (tgt := 21) (by omega) (by omega) dX7_checkArgument_7 (by decide) (fun h_7 => ?_) (fun h_7 => ?_)
    · exfalso
      omega
    · exact M_thrW (pc := 10) C hn tw_ia rfl (show ((293 : Nat), "an argument is out of range") ∈ strs by decide) dX7_checkArgument_10 dX7_checkArgument_13 dX7_checkArgument_14 dX7_checkArgument_17 dX7_checkArgument_20 (by decide) (Nat.le_of_ble_eq_true rfl) ⟨by decide, by decide⟩ (Nat.le_refl _) rfl
theorem t_X7_checkFile {N : Nat} {T : Ty} {f : Int} {v : Ct} (hT : TT T) (hf : i32 f) (hz : exF (v 5) f = false) : Thr mX7_checkFile 6 1 6 [vR 0, vI f] N T v "java/lang/IndexOutOfBoundsException" (fun v1 => v1 = v) := by
  refine Thr.of (by decide) (Nat.le_of_ble_eq_true rfl) fun κ C hn => ?_
  refine M_aload_n (pc := 0) C dX7_checkFile_0 rfl (by decide) ?_
  refine A_getR (pc := 1) C fl_X7_12 rfl (a := 0) (j := 1) rfl (tt_0 hT) rfl dX7_checkFile_1 ?_
  refine M_iload_n (pc := 4) C dX7_checkFile_4 rfl ?_
  refine A_cV (pc := 5) C (x := vI (Bi (exF (v 5) f))) (a := 1) (c := 0) (c_X0_exists (v := v) hT (f := f) (by omega)) yw_X0_exists lk_X7_225 rfl (congrArg Prod.fst (tt_1 hT)) hc_0 rfl dX7_checkFile_5 rfl (Nat.le_of_ble_eq_true rfl) (by decide) ⟨Nat.zero_le _, Nat.zero_le _⟩ ?_
  refine M_if_ne (pc := 8) C (tgt := 22) (Bi_i32 _) dX7_checkFile_8 (by decide) (fun h_8 => ?_) (fun h_8 => ?_)
  · have b_8 := Bi_ne0 h_8
    exact absurd (hz.symm.trans b_8) Bool.false_ne_true
  · have b_8 := Bi_eq0 h_8
    exact M_thrW (pc := 11) C hn tw_ix rfl (show ((286 : Nat), "there is no such file") ∈ strs by decide) dX7_checkFile_11 dX7_checkFile_14 dX7_checkFile_15 dX7_checkFile_18 dX7_checkFile_21 (by decide) (Nat.le_of_ble_eq_true rfl) ⟨by decide, by decide⟩ (Nat.le_refl _) rfl
theorem t_X7_checkBlock {N : Nat} {T : Ty} {b : Int} {v : Ct} (hT : TT T) (hb : i32 b) (h : ¬ (0 ≤ b ∧ b < 24)) : Thr mX7_checkBlock 6 1 6 [vI b] N T v "java/lang/IndexOutOfBoundsException" (fun v1 => v1 = v) := by
  refine Thr.of (by decide) (Nat.le_of_ble_eq_true rfl) fun κ C hn => ?_
  refine M_iload_n (pc := 0) C dX7_checkBlock_0 rfl ?_
  refine A_cS (pc := 1) C (x := vI (Bi (decide (0 ≤ b ∧ b < 24)))) (c_X7_isBlock (v := v) hT (b := b) (by omega)) yw_X7_isBlock lk_X7_288 rfl dX7_checkBlock_1 rfl (Nat.le_of_ble_eq_true rfl) (by decide) ⟨Nat.zero_le _, Nat.zero_le _⟩ ?_
  refine M_if_ne (pc := 4) C (tgt := 18) (Bi_i32 _) dX7_checkBlock_4 (by decide) (fun h_4 => ?_) (fun h_4 => ?_)
  · have b_4 := Bid_ne0 h_4
    exact absurd b_4 h
  · have b_4 := Bid_eq0 h_4
    exact M_thrW (pc := 7) C hn tw_ix rfl (show ((291 : Nat), "there is no such block") ∈ strs by decide) dX7_checkBlock_7 dX7_checkBlock_10 dX7_checkBlock_11 dX7_checkBlock_14 dX7_checkBlock_17 (by decide) (Nat.le_of_ble_eq_true rfl) ⟨by decide, by decide⟩ (Nat.le_refl _) rfl
theorem t_X7_create_a {N : Nat} {T : Ty} {x : Int} {v : Ct} (hT : TT T) (hx : i32 x) (h : ¬ (0 ≤ x ∧ x ≤ 200)) : Thr mX7_create 7 1 6 [vR 0, vI x] N T v "java/lang/IllegalArgumentException" (fun v1 => v1 = v) := by
  refine Thr.of (by decide) (Nat.le_of_ble_eq_true rfl) fun κ C hn => ?_
  refine M_iload_n (pc := 0) C dX7_create_0 rfl ?_
  refine M_iconst (pc := 1) C dX7_create_1 ?_
  refine M_sipush (pc := 2) C (by decide) dX7_create_2 ?_
  exact M_tS (pc := 5) C hn (t_X7_checkArgument (v := v) hT (x := x) (a := 0) (b := 200) (by omega) (by omega) (by omega) (by omega)) yw_X7_checkArgument ml_ca rfl dX7_create_5 rfl (Nat.le_of_ble_eq_true rfl) (by decide) ⟨by decide, by decide⟩ (Nat.le_refl _) (fun v1 h => h)
theorem t_X7_set_a {N : Nat} {T : Ty} {x : Int} {v : Ct} (hT : TT T) (hx : i32 x) (h : ¬ (0 ≤ x ∧ x ≤ 1)) : Thr mX7_set 7 1 6 [vR 0, vI x] N T v "java/lang/IllegalArgumentException" (fun v1 => v1 = v) := by
  refine Thr.of (by decide) (Nat.le_of_ble_eq_true rfl) fun κ C hn => ?_
  refine M_iload_n (pc := 0) C dX7_set_0 rfl ?_
  refine M_iconst (pc := 1) C dX7_set_1 ?_
  refine M_iconst (pc := 2) C dX7_set_2 ?_
  exact M_tS (pc := 3) C hn (t_X7_checkArgument (v := v) hT (x := x) (a := 0) (b := 1) (by omega) (by omega) (by omega) (by omega)) yw_X7_checkArgument ml_ca rfl dX7_set_3 rfl (Nat.le_of_ble_eq_true rfl) (by decide) ⟨by decide, by decide⟩ (Nat.le_refl _) (fun v1 h => h)
theorem t_X7_append_a {N : Nat} {T : Ty} {x : Int} {v : Ct} (hT : TT T) (hx : i32 x) (h : ¬ (33 ≤ x ∧ x ≤ 126)) : Thr mX7_append 7 1 6 [vR 0, vI x] N T v "java/lang/IllegalArgumentException" (fun v1 => v1 = v) := by
  refine Thr.of (by decide) (Nat.le_of_ble_eq_true rfl) fun κ C hn => ?_
  refine M_iload_n (pc := 0) C dX7_append_0 rfl ?_
  refine M_bipush (pc := 1) C (by decide) dX7_append_1 ?_
  refine M_bipush (pc := 3) C (by decide) dX7_append_3 ?_
  exact M_tS (pc := 5) C hn (t_X7_checkArgument (v := v) hT (x := x) (a := 33) (b := 126) (by omega) (by omega) (by omega) (by omega)) yw_X7_checkArgument ml_ca rfl dX7_append_5 rfl (Nat.le_of_ble_eq_true rfl) (by decide) ⟨by decide, by decide⟩ (Nat.le_refl _) (fun v1 h => h)
theorem t_X7_keep_a {N : Nat} {T : Ty} {x : Int} {v : Ct} (hT : TT T) (hx : i32 x) (h : ¬ (0 ≤ x ∧ x ≤ 1)) : Thr mX7_keep 7 1 6 [vR 0, vI x] N T v "java/lang/IllegalArgumentException" (fun v1 => v1 = v) := by
  refine Thr.of (by decide) (Nat.le_of_ble_eq_true rfl) fun κ C hn => ?_
  refine M_iload_n (pc := 0) C dX7_keep_0 rfl ?_
  refine M_iconst (pc := 1) C dX7_keep_1 ?_
  refine M_iconst (pc := 2) C dX7_keep_2 ?_
  exact M_tS (pc := 3) C hn (t_X7_checkArgument (v := v) hT (x := x) (a := 0) (b := 1) (by omega) (by omega) (by omega) (by omega)) yw_X7_checkArgument ml_ca rfl dX7_keep_3 rfl (Nat.le_of_ble_eq_true rfl) (by decide) ⟨by decide, by decide⟩ (Nat.le_refl _) (fun v1 h => h)
theorem t_X7_goBack_a {N : Nat} {T : Ty} {x : Int} {v : Ct} (hT : TT T) (hx : i32 x) (h : ¬ (0 ≤ x ∧ x ≤ 1)) : Thr mX7_goBack 7 1 6 [vR 0, vI x] N T v "java/lang/IllegalArgumentException" (fun v1 => v1 = v) := by
  refine Thr.of (by decide) (Nat.le_of_ble_eq_true rfl) fun κ C hn => ?_
  refine M_iload_n (pc := 0) C dX7_goBack_0 rfl ?_
  refine M_iconst (pc := 1) C dX7_goBack_1 ?_
  refine M_iconst (pc := 2) C dX7_goBack_2 ?_
  exact M_tS (pc := 3) C hn (t_X7_checkArgument (v := v) hT (x := x) (a := 0) (b := 1) (by omega) (by omega) (by omega) (by omega)) yw_X7_checkArgument ml_ca rfl dX7_goBack_3 rfl (Nat.le_of_ble_eq_true rfl) (by decide) ⟨by decide, by decide⟩ (Nat.le_refl _) (fun v1 h => h)
theorem t_X7_count_a {N : Nat} {T : Ty} {x : Int} {v : Ct} (hT : TT T) (hx : i32 x) (h : ¬ (0 ≤ x ∧ x ≤ 11)) : Thr mX7_count 7 1 6 [vR 0, vI x] N T v "java/lang/IllegalArgumentException" (fun v1 => v1 = v) := by
  refine Thr.of (by decide) (Nat.le_of_ble_eq_true rfl) fun κ C hn => ?_
  refine M_iload_n (pc := 0) C dX7_count_0 rfl ?_
  refine M_iconst (pc := 1) C dX7_count_1 ?_
  refine M_bipush (pc := 2) C (by decide) dX7_count_2 ?_
  exact M_tS (pc := 4) C hn (t_X7_checkArgument (v := v) hT (x := x) (a := 0) (b := 11) (by omega) (by omega) (by omega) (by omega)) yw_X7_checkArgument ml_ca rfl dX7_count_4 rfl (Nat.le_of_ble_eq_true rfl) (by decide) ⟨by decide, by decide⟩ (Nat.le_refl _) (fun v1 h => h)
theorem t_X7_ifPlaced_a {N : Nat} {T : Ty} {x : Int} {v : Ct} (hT : TT T) (hx : i32 x) (h : ¬ (1 ≤ x ∧ x ≤ 15)) : Thr mX7_ifPlaced 7 1 6 [vR 0, vI x] N T v "java/lang/IllegalArgumentException" (fun v1 => v1 = v) := by
  refine Thr.of (by decide) (Nat.le_of_ble_eq_true rfl) fun κ C hn => ?_
  refine M_iload_n (pc := 0) C dX7_ifPlaced_0 rfl ?_
  refine M_iconst (pc := 1) C dX7_ifPlaced_1 ?_
  refine M_bipush (pc := 2) C (by decide) dX7_ifPlaced_2 ?_
  exact M_tS (pc := 4) C hn (t_X7_checkArgument (v := v) hT (x := x) (a := 1) (b := 15) (by omega) (by omega) (by omega) (by omega)) yw_X7_checkArgument ml_ca rfl dX7_ifPlaced_4 rfl (Nat.le_of_ble_eq_true rfl) (by decide) ⟨by decide, by decide⟩ (Nat.le_refl _) (fun v1 h => h)
theorem t_X7_fewest_a {N : Nat} {T : Ty} {x : Int} {v : Ct} (hT : TT T) (hx : i32 x) (h : ¬ (0 ≤ x ∧ x ≤ 1)) : Thr mX7_fewest 7 1 6 [vR 0, vI x] N T v "java/lang/IllegalArgumentException" (fun v1 => v1 = v) := by
  refine Thr.of (by decide) (Nat.le_of_ble_eq_true rfl) fun κ C hn => ?_
  refine M_iload_n (pc := 0) C dX7_fewest_0 rfl ?_
  refine M_iconst (pc := 1) C dX7_fewest_1 ?_
  refine M_iconst (pc := 2) C dX7_fewest_2 ?_
  exact M_tS (pc := 3) C hn (t_X7_checkArgument (v := v) hT (x := x) (a := 0) (b := 1) (by omega) (by omega) (by omega) (by omega)) yw_X7_checkArgument ml_ca rfl dX7_fewest_3 rfl (Nat.le_of_ble_eq_true rfl) (by decide) ⟨by decide, by decide⟩ (Nat.le_refl _) (fun v1 h => h)
theorem t_X7_grow_f {N : Nat} {T : Ty} {f x : Int} {v : Ct} (hT : TT T) (hf : i32 f) (hz : exF (v 5) f = false) : Thr mX7_grow 7 1 6 [vR 0, vI f, vI x] N T v "java/lang/IndexOutOfBoundsException" (fun v1 => v1 = v) := by
  refine Thr.of (by decide) (Nat.le_of_ble_eq_true rfl) fun κ C hn => ?_
  refine M_aload_n (pc := 0) C dX7_grow_0 rfl (by decide) ?_
  refine M_iload_n (pc := 1) C dX7_grow_1 rfl ?_
  exact M_tV (pc := 2) C hn (a := 0) (c := 7) (t_X7_checkFile (v := v) hT (f := f) (by omega) hz) yw_X7_checkFile ml_cf rfl (congrArg Prod.fst (tt_0 hT)) hc_7 rfl dX7_grow_2 rfl (Nat.le_of_ble_eq_true rfl) (by decide) ⟨by decide, by decide⟩ (Nat.le_refl _) (fun v1 h => h)
theorem t_X7_cut_f {N : Nat} {T : Ty} {f x : Int} {v : Ct} (hT : TT T) (hf : i32 f) (hz : exF (v 5) f = false) : Thr mX7_cut 7 1 6 [vR 0, vI f, vI x] N T v "java/lang/IndexOutOfBoundsException" (fun v1 => v1 = v) := by
  refine Thr.of (by decide) (Nat.le_of_ble_eq_true rfl) fun κ C hn => ?_
  refine M_aload_n (pc := 0) C dX7_cut_0 rfl (by decide) ?_
  refine M_iload_n (pc := 1) C dX7_cut_1 rfl ?_
  exact M_tV (pc := 2) C hn (a := 0) (c := 7) (t_X7_checkFile (v := v) hT (f := f) (by omega) hz) yw_X7_checkFile ml_cf rfl (congrArg Prod.fst (tt_0 hT)) hc_7 rfl dX7_cut_2 rfl (Nat.le_of_ble_eq_true rfl) (by decide) ⟨by decide, by decide⟩ (Nat.le_refl _) (fun v1 h => h)
theorem t_X7_delete_f {N : Nat} {T : Ty} {f : Int} {v : Ct} (hT : TT T) (hf : i32 f) (hz : exF (v 5) f = false) : Thr mX7_delete 7 1 6 [vR 0, vI f] N T v "java/lang/IndexOutOfBoundsException" (fun v1 => v1 = v) := by
  refine Thr.of (by decide) (Nat.le_of_ble_eq_true rfl) fun κ C hn => ?_
  refine M_aload_n (pc := 0) C dX7_delete_0 rfl (by decide) ?_
  refine M_iload_n (pc := 1) C dX7_delete_1 rfl ?_
  exact M_tV (pc := 2) C hn (a := 0) (c := 7) (t_X7_checkFile (v := v) hT (f := f) (by omega) hz) yw_X7_checkFile ml_cf rfl (congrArg Prod.fst (tt_0 hT)) hc_7 rfl dX7_delete_2 rfl (Nat.le_of_ble_eq_true rfl) (by decide) ⟨by decide, by decide⟩ (Nat.le_refl _) (fun v1 h => h)
theorem t_X7_fileOf_f {N : Nat} {T : Ty} {f x : Int} {v : Ct} (hT : TT T) (hf : i32 f) (hz : exF (v 5) f = false) : Thr mX7_fileOf 7 1 6 [vR 0, vI f, vI x] N T v "java/lang/IndexOutOfBoundsException" (fun v1 => v1 = v) := by
  refine Thr.of (by decide) (Nat.le_of_ble_eq_true rfl) fun κ C hn => ?_
  refine M_aload_n (pc := 0) C dX7_fileOf_0 rfl (by decide) ?_
  refine M_iload_n (pc := 1) C dX7_fileOf_1 rfl ?_
  exact M_tV (pc := 2) C hn (a := 0) (c := 7) (t_X7_checkFile (v := v) hT (f := f) (by omega) hz) yw_X7_checkFile ml_cf rfl (congrArg Prod.fst (tt_0 hT)) hc_7 rfl dX7_fileOf_2 rfl (Nat.le_of_ble_eq_true rfl) (by decide) ⟨by decide, by decide⟩ (Nat.le_refl _) (fun v1 h => h)
theorem t_X7_place_f {N : Nat} {T : Ty} {f x : Int} {v : Ct} (hT : TT T) (hf : i32 f) (hz : exF (v 5) f = false) : Thr mX7_place 7 1 6 [vR 0, vI f, vI x] N T v "java/lang/IndexOutOfBoundsException" (fun v1 => v1 = v) := by
  refine Thr.of (by decide) (Nat.le_of_ble_eq_true rfl) fun κ C hn => ?_
  refine M_aload_n (pc := 0) C dX7_place_0 rfl (by decide) ?_
  refine M_iload_n (pc := 1) C dX7_place_1 rfl ?_
  exact M_tV (pc := 2) C hn (a := 0) (c := 7) (t_X7_checkFile (v := v) hT (f := f) (by omega) hz) yw_X7_checkFile ml_cf rfl (congrArg Prod.fst (tt_0 hT)) hc_7 rfl dX7_place_2 rfl (Nat.le_of_ble_eq_true rfl) (by decide) ⟨by decide, by decide⟩ (Nat.le_refl _) (fun v1 h => h)
theorem t_X7_ifGrown_f {N : Nat} {T : Ty} {f x : Int} {v : Ct} (hT : TT T) (hf : i32 f) (hz : exF (v 5) f = false) : Thr mX7_ifGrown 7 1 6 [vR 0, vI f, vI x] N T v "java/lang/IndexOutOfBoundsException" (fun v1 => v1 = v) := by
  refine Thr.of (by decide) (Nat.le_of_ble_eq_true rfl) fun κ C hn => ?_
  refine M_aload_n (pc := 0) C dX7_ifGrown_0 rfl (by decide) ?_
  refine M_iload_n (pc := 1) C dX7_ifGrown_1 rfl ?_
  exact M_tV (pc := 2) C hn (a := 0) (c := 7) (t_X7_checkFile (v := v) hT (f := f) (by omega) hz) yw_X7_checkFile ml_cf rfl (congrArg Prod.fst (tt_0 hT)) hc_7 rfl dX7_ifGrown_2 rfl (Nat.le_of_ble_eq_true rfl) (by decide) ⟨by decide, by decide⟩ (Nat.le_refl _) (fun v1 h => h)
theorem t_X7_spoil_b {N : Nat} {T : Ty} {b : Int} {v : Ct} (hT : TT T) (hb : i32 b) (h : ¬ (0 ≤ b ∧ b < 24)) : Thr mX7_spoil 7 1 6 [vR 0, vI b] N T v "java/lang/IndexOutOfBoundsException" (fun v1 => v1 = v) := by
  refine Thr.of (by decide) (Nat.le_of_ble_eq_true rfl) fun κ C hn => ?_
  refine M_iload_n (pc := 0) C dX7_spoil_0 rfl ?_
  exact M_tS (pc := 1) C hn (t_X7_checkBlock (v := v) hT (b := b) (by omega) (by omega)) yw_X7_checkBlock ml_cb rfl dX7_spoil_1 rfl (Nat.le_of_ble_eq_true rfl) (by decide) ⟨by decide, by decide⟩ (Nat.le_refl _) (fun v1 h => h)
theorem t_X7_heal_b {N : Nat} {T : Ty} {b : Int} {v : Ct} (hT : TT T) (hb : i32 b) (h : ¬ (0 ≤ b ∧ b < 24)) : Thr mX7_heal 7 1 6 [vR 0, vI b] N T v "java/lang/IndexOutOfBoundsException" (fun v1 => v1 = v) := by
  refine Thr.of (by decide) (Nat.le_of_ble_eq_true rfl) fun κ C hn => ?_
  refine M_iload_n (pc := 0) C dX7_heal_0 rfl ?_
  exact M_tS (pc := 1) C hn (t_X7_checkBlock (v := v) hT (b := b) (by omega) (by omega)) yw_X7_checkBlock ml_cb rfl dX7_heal_1 rfl (Nat.le_of_ble_eq_true rfl) (by decide) ⟨by decide, by decide⟩ (Nat.le_refl _) (fun v1 h => h)
theorem t_X7_blockOf_b {N : Nat} {T : Ty} {b x : Int} {v : Ct} (hT : TT T) (hb : i32 b) (h : ¬ (0 ≤ b ∧ b < 24)) : Thr mX7_blockOf 7 1 6 [vR 0, vI b, vI x] N T v "java/lang/IndexOutOfBoundsException" (fun v1 => v1 = v) := by
  refine Thr.of (by decide) (Nat.le_of_ble_eq_true rfl) fun κ C hn => ?_
  refine M_iload_n (pc := 0) C dX7_blockOf_0 rfl ?_
  exact M_tS (pc := 1) C hn (t_X7_checkBlock (v := v) hT (b := b) (by omega) (by omega)) yw_X7_checkBlock ml_cb rfl dX7_blockOf_1 rfl (Nat.le_of_ble_eq_true rfl) (by decide) ⟨by decide, by decide⟩ (Nat.le_refl _) (fun v1 h => h)
theorem t_X7_grow_a {N : Nat} {T : Ty} {f : Nat} {x : Int} {v : Ct} (hT : TT T) (hf : f < 10) (hz : v 5 f ≠ -1) (hx : i32 x) (h : ¬ (1 ≤ x ∧ x ≤ 200)) : Thr mX7_grow 7 1 6 [vR 0, vI ((f : Nat) : Int), vI x] N T v "java/lang/IllegalArgumentException" (fun v1 => v1 = v) := by
  refine Thr.of (by decide) (Nat.le_of_ble_eq_true rfl) fun κ C hn => ?_
  refine M_aload_n (pc := 0) C dX7_grow_0 rfl (by decide) ?_
  refine M_iload_n (pc := 1) C dX7_grow_1 rfl ?_
  refine A_cVv (pc := 2) C (a := 0) (c := 7) (c_X7_checkFile hT (f := f) (by omega) hz) yw_X7_checkFile lk_X7_67 rfl (congrArg Prod.fst (tt_0 hT)) hc_7 rfl dX7_grow_2 rfl (Nat.le_of_ble_eq_true rfl) (by decide) ⟨Nat.zero_le _, Nat.zero_le _⟩ ?_
  refine M_iload_n (pc := 5) C dX7_grow_5 rfl ?_
  refine M_iconst (pc := 6) C dX7_grow_6 ?_
  refine M_sipush (pc := 7) C (by decide) dX7_grow_7 ?_
  exact M_tS (pc := 10) C hn (t_X7_checkArgument (v := v) hT (x := x) (a := 1) (b := 200) (by omega) (by omega) (by omega) (by omega)) yw_X7_checkArgument ml_ca rfl dX7_grow_10 rfl (Nat.le_of_ble_eq_true rfl) (by decide) ⟨by decide, by decide⟩ (Nat.le_refl _) (fun v1 h => h)
theorem t_X7_cut_a {N : Nat} {T : Ty} {f : Nat} {x : Int} {v : Ct} (hT : TT T) (hf : f < 10) (hz : v 5 f ≠ -1) (hx : i32 x) (h : ¬ (1 ≤ x ∧ x ≤ 200)) : Thr mX7_cut 7 1 6 [vR 0, vI ((f : Nat) : Int), vI x] N T v "java/lang/IllegalArgumentException" (fun v1 => v1 = v) := by
  refine Thr.of (by decide) (Nat.le_of_ble_eq_true rfl) fun κ C hn => ?_
  refine M_aload_n (pc := 0) C dX7_cut_0 rfl (by decide) ?_
  refine M_iload_n (pc := 1) C dX7_cut_1 rfl ?_
  refine A_cVv (pc := 2) C (a := 0) (c := 7) (c_X7_checkFile hT (f := f) (by omega) hz) yw_X7_checkFile lk_X7_67 rfl (congrArg Prod.fst (tt_0 hT)) hc_7 rfl dX7_cut_2 rfl (Nat.le_of_ble_eq_true rfl) (by decide) ⟨Nat.zero_le _, Nat.zero_le _⟩ ?_
  refine M_iload_n (pc := 5) C dX7_cut_5 rfl ?_
  refine M_iconst (pc := 6) C dX7_cut_6 ?_
  refine M_sipush (pc := 7) C (by decide) dX7_cut_7 ?_
  exact M_tS (pc := 10) C hn (t_X7_checkArgument (v := v) hT (x := x) (a := 1) (b := 200) (by omega) (by omega) (by omega) (by omega)) yw_X7_checkArgument ml_ca rfl dX7_cut_10 rfl (Nat.le_of_ble_eq_true rfl) (by decide) ⟨by decide, by decide⟩ (Nat.le_refl _) (fun v1 h => h)
theorem t_X7_fileOf_a {N : Nat} {T : Ty} {f : Nat} {x : Int} {v : Ct} (hT : TT T) (hf : f < 10) (hz : v 5 f ≠ -1) (hx : i32 x) (h : ¬ (0 ≤ x ∧ x ≤ 6)) : Thr mX7_fileOf 7 1 6 [vR 0, vI ((f : Nat) : Int), vI x] N T v "java/lang/IllegalArgumentException" (fun v1 => v1 = v) := by
  refine Thr.of (by decide) (Nat.le_of_ble_eq_true rfl) fun κ C hn => ?_
  refine M_aload_n (pc := 0) C dX7_fileOf_0 rfl (by decide) ?_
  refine M_iload_n (pc := 1) C dX7_fileOf_1 rfl ?_
  refine A_cVv (pc := 2) C (a := 0) (c := 7) (c_X7_checkFile hT (f := f) (by omega) hz) yw_X7_checkFile lk_X7_67 rfl (congrArg Prod.fst (tt_0 hT)) hc_7 rfl dX7_fileOf_2 rfl (Nat.le_of_ble_eq_true rfl) (by decide) ⟨Nat.zero_le _, Nat.zero_le _⟩ ?_
  refine M_iload_n (pc := 5) C dX7_fileOf_5 rfl ?_
  refine M_iconst (pc := 6) C dX7_fileOf_6 ?_
  refine M_bipush (pc := 7) C (by decide) dX7_fileOf_7 ?_
  exact M_tS (pc := 9) C hn (t_X7_checkArgument (v := v) hT (x := x) (a := 0) (b := 6) (by omega) (by omega) (by omega) (by omega)) yw_X7_checkArgument ml_ca rfl dX7_fileOf_9 rfl (Nat.le_of_ble_eq_true rfl) (by decide) ⟨by decide, by decide⟩ (Nat.le_refl _) (fun v1 h => h)
theorem t_X7_ifGrown_a {N : Nat} {T : Ty} {f : Nat} {x : Int} {v : Ct} (hT : TT T) (hf : f < 10) (hz : v 5 f ≠ -1) (hx : i32 x) (h : ¬ (1 ≤ x ∧ x ≤ 200)) : Thr mX7_ifGrown 7 1 6 [vR 0, vI ((f : Nat) : Int), vI x] N T v "java/lang/IllegalArgumentException" (fun v1 => v1 = v) := by
  refine Thr.of (by decide) (Nat.le_of_ble_eq_true rfl) fun κ C hn => ?_
  refine M_aload_n (pc := 0) C dX7_ifGrown_0 rfl (by decide) ?_
  refine M_iload_n (pc := 1) C dX7_ifGrown_1 rfl ?_
  refine A_cVv (pc := 2) C (a := 0) (c := 7) (c_X7_checkFile hT (f := f) (by omega) hz) yw_X7_checkFile lk_X7_67 rfl (congrArg Prod.fst (tt_0 hT)) hc_7 rfl dX7_ifGrown_2 rfl (Nat.le_of_ble_eq_true rfl) (by decide) ⟨Nat.zero_le _, Nat.zero_le _⟩ ?_
  refine M_iload_n (pc := 5) C dX7_ifGrown_5 rfl ?_
  refine M_iconst (pc := 6) C dX7_ifGrown_6 ?_
  refine M_sipush (pc := 7) C (by decide) dX7_ifGrown_7 ?_
  exact M_tS (pc := 10) C hn (t_X7_checkArgument (v := v) hT (x := x) (a := 1) (b := 200) (by omega) (by omega) (by omega) (by omega)) yw_X7_checkArgument ml_ca rfl dX7_ifGrown_10 rfl (Nat.le_of_ble_eq_true rfl) (by decide) ⟨by decide, by decide⟩ (Nat.le_refl _) (fun v1 h => h)
theorem t_X7_blockOf_a {N : Nat} {T : Ty} {b : Nat} {x : Int} {v : Ct} (hT : TT T) (hb : b < 24) (hx : i32 x) (h : ¬ (0 ≤ x ∧ x ≤ 4)) : Thr mX7_blockOf 7 1 6 [vR 0, vI ((b : Nat) : Int), vI x] N T v "java/lang/IllegalArgumentException" (fun v1 => v1 = v) := by
  refine Thr.of (by decide) (Nat.le_of_ble_eq_true rfl) fun κ C hn => ?_
  refine M_iload_n (pc := 0) C dX7_blockOf_0 rfl ?_
  refine A_cSv (pc := 1) C (c_X7_checkBlock hT (b := b) (by omega)) yw_X7_checkBlock lk_X7_81 rfl dX7_blockOf_1 rfl (Nat.le_of_ble_eq_true rfl) (by decide) ⟨Nat.zero_le _, Nat.zero_le _⟩ ?_
  refine M_iload_n (pc := 4) C dX7_blockOf_4 rfl ?_
  refine M_iconst (pc := 5) C dX7_blockOf_5 ?_
  refine M_iconst (pc := 6) C dX7_blockOf_6 ?_
  exact M_tS (pc := 7) C hn (t_X7_checkArgument (v := v) hT (x := x) (a := 0) (b := 4) (by omega) (by omega) (by omega) (by omega)) yw_X7_checkArgument ml_ca rfl dX7_blockOf_7 rfl (Nat.le_of_ble_eq_true rfl) (by decide) ⟨by decide, by decide⟩ (Nat.le_refl _) (fun v1 h => h)
theorem t_X7_spoil_s {N : Nat} {T : Ty} {b : Nat} {v : Ct} (hT : TT T) (hb : b < 24) (h3 : v 2 b = 3) : Thr mX7_spoil 6 1 6 [vR 0, vI ((b : Nat) : Int)] N T v "java/lang/IllegalStateException" (fun v1 => v1 = v) := by
  refine Thr.of (by decide) (Nat.le_of_ble_eq_true rfl) fun κ C hn => ?_
  refine M_iload_n (pc := 0) C dX7_spoil_0 rfl ?_
  refine A_cSv (pc := 1) C (c_X7_checkBlock hT (b := b) (by omega)) yw_X7_checkBlock lk_X7_81 rfl dX7_spoil_1 rfl (Nat.le_of_ble_eq_true rfl) (by decide) ⟨Nat.zero_le _, Nat.zero_le _⟩ ?_
  refine M_aload_n (pc := 4) C dX7_spoil_4 rfl (by decide) ?_
  refine A_getR (pc := 5) C fl_X7_12 rfl (a := 0) (j := 1) rfl (tt_0 hT) rfl dX7_spoil_5 ?_
  refine M_iload_n (pc := 8) C dX7_spoil_8 rfl ?_
  refine A_cV (pc := 9) C (x := vI (v 2 b)) (a := 1) (c := 0) (c_X0_kindOf_n (v := v) hT (b := b) (by omega)) yw_X0_kindOf lk_X7_84 rfl (congrArg Prod.fst (tt_1 hT)) hc_0 rfl dX7_spoil_9 rfl (Nat.le_of_ble_eq_true rfl) (by decide) ⟨Nat.zero_le _, Nat.zero_le _⟩ ?_
  refine M_iconst (pc := 12) C dX7_spoil_12 ?_
  refine M_rd (pc := 13) C 2 b (fun (r_13 : i32 (v 2 b)) => ?_)
  refine M_icmp_ne (pc := 13) C (tgt := 26) (by omega) (by omega) dX7_spoil_13 (by decide) (fun h_13 => ?_) (fun h_13 => ?_)
  · exfalso
    omega
  · exact M_thrS (pc := 16) C hn tw_is rfl (show ((89 : Nat), "the block is bad already") ∈ strs by decide) dX7_spoil_16 dX7_spoil_19 dX7_spoil_20 dX7_spoil_22 dX7_spoil_25 (by decide) (Nat.le_of_ble_eq_true rfl) ⟨by decide, by decide⟩ (Nat.le_refl _) rfl
theorem t_X7_heal_s {N : Nat} {T : Ty} {b : Nat} {v : Ct} (hT : TT T) (hb : b < 24) (h3 : v 2 b = 3 → orB (fun f => hsB (v 3) (v 5) (v 6) f b) 10 = true) : Thr mX7_heal 6 1 6 [vR 0, vI ((b : Nat) : Int)] N T v "java/lang/IllegalStateException" (fun v1 => v1 = v) := by
  refine Thr.of (by decide) (Nat.le_of_ble_eq_true rfl) fun κ C hn => ?_
  refine M_iload_n (pc := 0) C dX7_heal_0 rfl ?_
  refine A_cSv (pc := 1) C (c_X7_checkBlock hT (b := b) (by omega)) yw_X7_checkBlock lk_X7_81 rfl dX7_heal_1 rfl (Nat.le_of_ble_eq_true rfl) (by decide) ⟨Nat.zero_le _, Nat.zero_le _⟩ ?_
  refine M_aload_n (pc := 4) C dX7_heal_4 rfl (by decide) ?_
  refine A_getR (pc := 5) C fl_X7_12 rfl (a := 0) (j := 1) rfl (tt_0 hT) rfl dX7_heal_5 ?_
  refine M_iload_n (pc := 8) C dX7_heal_8 rfl ?_
  refine A_cV (pc := 9) C (x := vI (v 2 b)) (a := 1) (c := 0) (c_X0_kindOf_n (v := v) hT (b := b) (by omega)) yw_X0_kindOf lk_X7_84 rfl (congrArg Prod.fst (tt_1 hT)) hc_0 rfl dX7_heal_9 rfl (Nat.le_of_ble_eq_true rfl) (by decide) ⟨Nat.zero_le _, Nat.zero_le _⟩ ?_
  refine M_iconst (pc := 12) C dX7_heal_12 ?_
  refine M_rd (pc := 13) C 2 b (fun (r_13 : i32 (v 2 b)) => ?_)
  refine M_icmp_eq (pc := 13) C (tgt := 26) (by omega) (by omega) dX7_heal_13 (by decide) (fun h_13 => ?_) (fun h_13 => ?_)
  · refine M_aload_n (pc := 26) C dX7_heal_26 rfl (by decide) ?_
    refine A_getR (pc := 27) C fl_X7_12 rfl (a := 0) (j := 1) rfl (tt_0 hT) rfl dX7_heal_27 ?_
    refine M_iload_n (pc := 30) C dX7_heal_30 rfl ?_
    refine A_cV (pc := 31) C (x := vI (Bi (orB (fun f => hsB (v 3) (v 5) (v 6) f b) 10))) (a := 1) (c := 0) (c_X0_isHeld hT (b := b) (by omega)) yw_X0_isHeld lk_X7_99 rfl (congrArg Prod.fst (tt_1 hT)) hc_0 rfl dX7_heal_31 rfl (Nat.le_of_ble_eq_true rfl) (by decide) ⟨Nat.zero_le _, Nat.zero_le _⟩ ?_
    refine M_if_eq (pc := 34) C (tgt := 47) (Bi_i32 _) dX7_heal_34 (by decide) (fun h_34 => ?_) (fun h_34 => ?_)
    · have b_34 := Bi_eq0 h_34
      cases (h3 h_13).symm.trans b_34
    · have b_34 := Bi_ne0 h_34
      exact M_thrS (pc := 37) C hn tw_is rfl (show ((103 : Nat), "a broken file has something there") ∈ strs by decide) dX7_heal_37 dX7_heal_40 dX7_heal_41 dX7_heal_43 dX7_heal_46 (by decide) (Nat.le_of_ble_eq_true rfl) ⟨by decide, by decide⟩ (Nat.le_refl _) rfl
  · exact M_thrS (pc := 16) C hn tw_is rfl (show ((97 : Nat), "the block is not bad") ∈ strs by decide) dX7_heal_16 dX7_heal_19 dX7_heal_20 dX7_heal_22 dX7_heal_25 (by decide) (Nat.le_of_ble_eq_true rfl) ⟨by decide, by decide⟩ (Nat.le_refl _) rfl
theorem t_X7_place_c {N : Nat} {T : Ty} {f : Nat} {x : Int} {v : Ct} (hT : TT T) (hf : f < 10) (hz : v 5 f ≠ -1) (hx : i32 x) (h : ¬ (0 ≤ x ∧ x < v 5 f)) : Thr mX7_place 6 1 6 [vR 0, vI ((f : Nat) : Int), vI x] N T v "java/lang/IndexOutOfBoundsException" (fun v1 => v1 = v) := by
  refine Thr.of (by decide) (Nat.le_of_ble_eq_true rfl) fun κ C hn => ?_
  refine M_aload_n (pc := 0) C dX7_place_0 rfl (by decide) ?_
  refine M_iload_n (pc := 1) C dX7_place_1 rfl ?_
  refine A_cVv (pc := 2) C (a := 0) (c := 7) (c_X7_checkFile hT (f := f) (by omega) hz) yw_X7_checkFile lk_X7_67 rfl (congrArg Prod.fst (tt_0 hT)) hc_7 rfl dX7_place_2 rfl (Nat.le_of_ble_eq_true rfl) (by decide) ⟨Nat.zero_le _, Nat.zero_le _⟩ ?_
  refine M_iload_n (pc := 5) C dX7_place_5 rfl ?_
  refine M_if_lt (pc := 6) C (tgt := 21) (by omega) dX7_place_6 (by decide) (fun h_6 => ?_) (fun h_6 => ?_)
  · exact M_thrS (pc := 21) C hn tw_ix rfl (show ((177 : Nat), "the file has no such cell") ∈ strs by decide) dX7_place_21 dX7_place_24 dX7_place_25 dX7_place_27 dX7_place_30 (by decide) (Nat.le_of_ble_eq_true rfl) ⟨by decide, by decide⟩ (Nat.le_refl _) rfl
  · refine M_iload_n (pc := 9) C dX7_place_9 rfl ?_
    refine M_aload_n (pc := 10) C dX7_place_10 rfl (by decide) ?_
    refine A_getR (pc := 11) C fl_X7_12 rfl (a := 0) (j := 1) rfl (tt_0 hT) rfl dX7_place_11 ?_
    refine M_iload_n (pc := 14) C dX7_place_14 rfl ?_
    refine A_cV (pc := 15) C (x := vI (if v 5 f = -1 then 0 else v 5 f)) (a := 1) (c := 0) (c_X0_sizeOf (v := v) hT (f := f) (by omega)) yw_X0_sizeOf lk_X7_172 rfl (congrArg Prod.fst (tt_1 hT)) hc_0 rfl dX7_place_15 rfl (Nat.le_of_ble_eq_true rfl) (by decide) ⟨Nat.zero_le _, Nat.zero_le _⟩ ?_
    refine M_rd (pc := 18) C 5 f (fun (r_18 : i32 (v 5 f)) => ?_)
    refine M.to (st2 := [vI (v 5 f), vI x]) ?_ rfl (by rw [if_neg hz]) rfl
    refine M_icmp_lt (pc := 18) C (tgt := 31) (by omega) (by omega) dX7_place_18 (by decide) (fun h_18 => ?_) (fun h_18 => ?_)
    · exfalso
      omega
    · exact M_thrS (pc := 21) C hn tw_ix rfl (show ((177 : Nat), "the file has no such cell") ∈ strs by decide) dX7_place_21 dX7_place_24 dX7_place_25 dX7_place_27 dX7_place_30 (by decide) (Nat.le_of_ble_eq_true rfl) ⟨by decide, by decide⟩ (Nat.le_refl _) rfl
theorem t_X7_append_s {N : Nat} {T : Ty} {x : Int} {v : Ct} (hT : TT T) (hx : 33 ≤ x ∧ x ≤ 126) (h : 60 ≤ v 67 1) : Thr mX7_append 6 1 6 [vR 0, vI x] N T v "java/lang/IllegalStateException" (fun v1 => v1 = v) := by
  refine Thr.of (by decide) (Nat.le_of_ble_eq_true rfl) fun κ C hn => ?_
  refine M_iload_n (pc := 0) C dX7_append_0 rfl ?_
  refine M_bipush (pc := 1) C (by decide) dX7_append_1 ?_
  refine M_bipush (pc := 3) C (by decide) dX7_append_3 ?_
  refine A_cSv (pc := 5) C (c_X7_checkArgument hT (x := x) (a := 33) (b := 126) (by omega) (by omega) (by omega) (by omega)) yw_X7_checkArgument lk_X7_55 rfl dX7_append_5 rfl (Nat.le_of_ble_eq_true rfl) (by decide) ⟨Nat.zero_le _, Nat.zero_le _⟩ ?_
  refine M_aload_n (pc := 8) C dX7_append_8 rfl (by decide) ?_
  refine A_getR (pc := 9) C fl_X7_30 rfl (a := 0) (j := 67) rfl (tt_0 hT) rfl dX7_append_9 ?_
  refine A_cV (pc := 12) C (x := vI (Bi (decide (60 ≤ v 67 1)))) (a := 67) (c := 6) (c_X6_isFull hT (v := v)) yw_X6_isFull lk_X7_122 rfl (congrArg Prod.fst (tt_67 hT)) hc_6 rfl dX7_append_12 rfl (Nat.le_of_ble_eq_true rfl) (by decide) ⟨Nat.zero_le _, Nat.zero_le _⟩ ?_
  refine M_if_eq (pc := 15) C (tgt := 28) (Bi_i32 _) dX7_append_15 (by decide) (fun h_15 => ?_) (fun h_15 => ?_)
  · have b_15 := Bid_eq0 h_15
    exfalso
    omega
  · have b_15 := Bid_ne0 h_15
    exact M_thrS (pc := 18) C hn tw_is rfl (show ((126 : Nat), "the buffer is full") ∈ strs by decide) dX7_append_18 dX7_append_21 dX7_append_22 dX7_append_24 dX7_append_27 (by decide) (Nat.le_of_ble_eq_true rfl) ⟨by decide, by decide⟩ (Nat.le_refl _) rfl
theorem t_X7_goBack_s {N : Nat} {T : Ty} {q : Nat} {v : Ct} (hT : TT T) (hq : q < 2) (hg : v 66 q = -1) : Thr mX7_goBack 6 1 6 [vR 0, vI ((q : Nat) : Int)] N T v "java/lang/IllegalStateException" (fun v1 => v1 = v) := by
  refine Thr.of (by decide) (Nat.le_of_ble_eq_true rfl) fun κ C hn => ?_
  refine M_iload_n (pc := 0) C dX7_goBack_0 rfl ?_
  refine M_iconst (pc := 1) C dX7_goBack_1 ?_
  refine M_iconst (pc := 2) C dX7_goBack_2 ?_
  refine A_cSv (pc := 3) C (c_X7_checkArgument hT (x := ((q : Nat) : Int)) (a := 0) (b := 1) (by omega) (by omega) (by omega) (by omega)) yw_X7_checkArgument lk_X7_55 rfl dX7_goBack_3 rfl (Nat.le_of_ble_eq_true rfl) (by decide) ⟨Nat.zero_le _, Nat.zero_le _⟩ ?_
  refine M_aload_n (pc := 6) C dX7_goBack_6 rfl (by decide) ?_
  refine A_getR (pc := 7) C fl_X7_23 rfl (a := 0) (j := 66) rfl (tt_0 hT) rfl dX7_goBack_7 ?_
  refine M_iload_n (pc := 10) C dX7_goBack_10 rfl ?_
  refine A_aald (pc := 11) C (a := 66) (q := q) rfl (tt_66 hT) (by decide) (by omega) (by omega) dX7_goBack_11 (fun (r_11 : i32 (v 66 q)) => ?_)
  refine M_ifnonnull (pc := 12) C (tgt := 25) (by omega) dX7_goBack_12 (by decide) (fun h_12 => ?_) (fun h_12 => ?_)
  · exfalso
    omega
  · exact M_thrS (pc := 15) C hn tw_is rfl (show ((159 : Nat), "the slot is empty") ∈ strs by decide) dX7_goBack_15 dX7_goBack_18 dX7_goBack_19 dX7_goBack_21 dX7_goBack_24 (by decide) (Nat.le_of_ble_eq_true rfl) ⟨by decide, by decide⟩ (Nat.le_refl _) rfl
theorem t_X7_undo_s {N : Nat} {T : Ty} {v : Ct} (hT : TT T) (h0 : v 10 1 = 0) : Thr mX7_undo 6 1 6 [vR 0] N T v "java/lang/IllegalStateException" (fun v1 => v1 = v) := by
  refine Thr.of (by decide) (Nat.le_of_ble_eq_true rfl) fun κ C hn => ?_
  refine M_aload_n (pc := 0) C dX7_undo_0 rfl (by decide) ?_
  refine A_getR (pc := 1) C fl_X7_19 rfl (a := 0) (j := 10) rfl (tt_0 hT) rfl dX7_undo_1 ?_
  refine A_cV (pc := 4) C (x := vI (v 10 1)) (a := 10) (c := 2) (c_X2_held (v := v) hT) yw_X2_held lk_X7_161 rfl (congrArg Prod.fst (tt_10 hT)) hc_2 rfl dX7_undo_4 rfl (Nat.le_of_ble_eq_true rfl) (by decide) ⟨Nat.zero_le _, Nat.zero_le _⟩ ?_
  refine M_rd (pc := 7) C 10 1 (fun (r_4_0 : i32 (v 10 1)) => ?_)
  refine M_if_ne (pc := 7) C (tgt := 20) (by omega) dX7_undo_7 (by decide) (fun h_7 => ?_) (fun h_7 => ?_)
  · exact absurd h0 h_7
  · exact M_thrS (pc := 10) C hn tw_is rfl (show ((164 : Nat), "no state is saved") ∈ strs by decide) dX7_undo_10 dX7_undo_13 dX7_undo_14 dX7_undo_16 dX7_undo_19 (by decide) (Nat.le_of_ble_eq_true rfl) ⟨by decide, by decide⟩ (Nat.le_refl _) rfl
theorem t_X7_run_w {N : Nat} {T : Ty} {D H2 : Nat → Int} {n : Nat} {v : Ct} (hT : TT T) (hx : v 67 1 = (n : Int)) (hn1 : n ≤ 60) (hwl : (wlI (v 68) n H2 60).1 = false) : Thr mX7_run 6 1 6 [vR 0] N T (sa v 69 D) "java/lang/IllegalArgumentException" (fun v1 => v1 = sa v 69 (rdE (v 68) D n)) := by
  obtain ⟨w1, w2⟩ := (wl_rd (U := v 68) (H := H2) hn1 D).2 hwl
  have hrv := rdV_le (v 68) D n
  refine Thr.of (by decide) (Nat.le_of_ble_eq_true rfl) fun κ C hn => ?_
  refine M_aload_n (pc := 0) C dX7_run_0 rfl (by decide) ?_
  refine A_getR (pc := 1) C fl_X7_37 rfl (a := 0) (j := 69) rfl (tt_0 hT) rfl dX7_run_1 ?_
  refine M_aload_n (pc := 4) C dX7_run_4 rfl (by decide) ?_
  refine A_getR (pc := 5) C fl_X7_30 rfl (a := 0) (j := 67) rfl (tt_0 hT) rfl dX7_run_5 ?_
  refine A_cV (pc := 8) C (x := vI (rdV (v 68) D n)) (a := 69) (c := 3) (c_X3_readable hT (v := v) (D := D) hx hn1) yw_X3_readable lk_X7_138 rfl (congrArg Prod.fst (tt_69 hT)) hc_3 rfl dX7_run_8 rfl (Nat.le_of_ble_eq_true rfl) (by decide) ⟨Nat.zero_le _, Nat.zero_le _⟩ ?_
  refine M_aload_n (pc := 11) C dX7_run_11 rfl (by decide) ?_
  refine A_getR (pc := 12) C fl_X7_30 rfl (a := 0) (j := 67) rfl (tt_0 hT) rfl dX7_run_12 ?_
  refine A_cV (pc := 15) C (x := vI (v 67 1)) (a := 67) (c := 6) (c_X6_length hT (v := sa v 69 (rdE (v 68) D n))) yw_X6_length lk_X7_131 rfl (congrArg Prod.fst (tt_67 hT)) hc_6 rfl dX7_run_15 rfl (Nat.le_of_ble_eq_true rfl) (by decide) ⟨Nat.zero_le _, Nat.zero_le _⟩ ?_
  refine M.to (st2 := [vI ((n : Nat) : Int), vI (rdV (v 68) D n)]) ?_ rfl (by rw [hx]) rfl
  refine M_icmp_lt (pc := 18) C (tgt := 31) (by omega) (by omega) dX7_run_18 (by decide) (fun h_18 => ?_) (fun h_18 => ?_)
  · exact M_thrS (pc := 31) C hn tw_ia rfl (show ((147 : Nat), "the buffer tells no files") ∈ strs by decide) dX7_run_31 dX7_run_34 dX7_run_35 dX7_run_37 dX7_run_40 (by decide) (Nat.le_of_ble_eq_true rfl) ⟨by decide, by decide⟩ (Nat.le_refl _) rfl
  · refine M_aload_n (pc := 21) C dX7_run_21 rfl (by decide) ?_
    refine A_getR (pc := 22) C fl_X7_37 rfl (a := 0) (j := 69) rfl (tt_0 hT) rfl dX7_run_22 ?_
    refine A_cV (pc := 25) C (x := vI (Bi (decide ((rdE (v 68) D n) 0 = 4 ∨ (rdE (v 68) D n) 0 = 5)))) (a := 69) (c := 3) (c_X3_canEndHere hT (v := sa v 69 (rdE (v 68) D n))) yw_X3_canEndHere lk_X7_142 rfl (congrArg Prod.fst (tt_69 hT)) hc_3 rfl dX7_run_25 rfl (Nat.le_of_ble_eq_true rfl) (by decide) ⟨Nat.zero_le _, Nat.zero_le _⟩ ?_
    refine M_if_ne (pc := 28) C (tgt := 41) (Bi_i32 _) dX7_run_28 (by decide) (fun h_28 => ?_) (fun h_28 => ?_)
    · have b_28 := Bid_ne0 h_28
      exact absurd b_28 (fun q => by have := w2 (by omega); omega)
    · have b_28 := Bid_eq0 h_28
      exact M_thrS (pc := 31) C hn tw_ia rfl (show ((147 : Nat), "the buffer tells no files") ∈ strs by decide) dX7_run_31 dX7_run_34 dX7_run_35 dX7_run_37 dX7_run_40 (by decide) (Nat.le_of_ble_eq_true rfl) ⟨by decide, by decide⟩ (Nat.le_refl _) rfl
