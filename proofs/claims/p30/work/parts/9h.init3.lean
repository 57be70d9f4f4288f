def fO (a b : Nat) (v v1 : Ct) : Prop := ∀ x, x < a ∨ b ≤ x → v1 x = v x
theorem c_X3_init {N : Nat} {T : Ty} {v : Ct} {a : Nat} (hT : T a = (8, 0, lkN)) : RunsP mX3_init 1 0 0 [vR ((a : Nat) : Int)] N T v N T (fun r1 v1 => r1 = none ∧ fO a (a + 1) v v1) := by
  refine RunsP.of (by decide) (Nat.le_of_ble_eq_true rfl) fun κ C => ?_
  refine M_aload_n (pc := 0) C dX3_init_0 rfl (by omega) ?_
  refine M_objInit (pc := 1) C (by omega) (GW_t (i := 104) (by decide +kernel) rfl) oi_i oi_c (by decide) (Nat.le_of_ble_eq_true rfl) dX3_init_1 ?_
  refine M_aload_n (pc := 4) C dX3_init_4 rfl (by omega) ?_
  refine M_iconst (pc := 5) C dX3_init_5 ?_
  refine A_putI (pc := 6) C fl_X3_11 rfl (by decide) (a := a) rfl hT (by omega) dX3_init_6 ?_
  refine M_aload_n (pc := 9) C dX3_init_9 rfl (by omega) ?_
  refine M_iconst (pc := 10) C dX3_init_10 ?_
  refine A_putI (pc := 11) C fl_X3_15 rfl (by decide) (a := a) rfl hT (by omega) dX3_init_11 ?_
  refine M_aload_n (pc := 14) C dX3_init_14 rfl (by omega) ?_
  refine M_iconst (pc := 15) C dX3_init_15 ?_
  refine A_putI (pc := 16) C fl_X3_18 rfl (by decide) (a := a) rfl hT (by omega) dX3_init_16 ?_
  refine M_aload_n (pc := 19) C dX3_init_19 rfl (by omega) ?_
  refine M_iconst (pc := 20) C dX3_init_20 ?_
  refine A_putI (pc := 21) C fl_X3_21 rfl (by decide) (a := a) rfl hT (by omega) dX3_init_21 ?_
  refine M_vretP (pc := 24) C rfl dX3_init_24 ⟨rfl, fun x hx => ?_⟩ rfl
  funext q
  rw [up_ne (by omega), up_ne (by omega), up_ne (by omega), up_ne (by omega)]
def lkM (l : List Int) : Nat → Int := fun k => l.getD k (-1)
def tT (T : Ty) (a : Nat) : Ty := fun i => if i = a then (10, 0, lkM [((a + 1 : Nat) : Int), ((a + 2 : Nat) : Int)]) else if a < i ∧ i ≤ a + 2 then (1, 10, lkN) else T i
theorem tT_eq {T : Ty} {a : Nat} (hT : T a = (10, 0, lkN)) : iT (iT T (a + 1) a 0 10) (a + 2) a 1 10 = tT T a := by
  have h1 := iT_s (N := a + 1) (k := 0) (n := 10) (by omega) hT
  have h2 := iT_s (N := a + 2) (k := 1) (n := 10) (by omega) h1
  funext i
  unfold tT
  by_cases h : i = a
  · rw [h, h2, if_pos rfl]
    refine congrArg (fun f => (10, 0, f)) ?_
    funext q
    rcases q with _ | _ | q
    · rfl
    · rfl
    · rfl
  · rw [if_neg h]
    by_cases e2 : i = a + 2
    · rw [e2, if_pos (by omega)]
      exact iT_n (by omega)
    by_cases e1 : i = a + 1
    · rw [e1, if_pos (by omega)]
      exact (iT_o (by omega) (by omega)).trans (iT_n (by omega))
    rw [if_neg (by omega)]
    exact (iT_o h e2).trans (iT_o h e1)
theorem c_X5_init {T : Ty} {v : Ct} {a : Nat} (hT : T a = (10, 0, lkN)) : RunsP mX5_init 1 2 20 [vR ((a : Nat) : Int)] (a + 1) T v (a + 3) (tT T a) (fun r1 v1 => r1 = none ∧ fO a (a + 3) v v1) := by
  rw [← tT_eq hT]
  have h1 := iT_s (N := a + 1) (k := 0) (n := 10) (by omega) hT
  have h2 := iT_s (N := a + 2) (k := 1) (n := 10) (by omega) h1
  refine RunsP.of (by decide) (Nat.le_of_ble_eq_true rfl) fun κ C => ?_
  refine M_aload_n (pc := 0) C dX5_init_0 rfl (by omega) ?_
  refine M_objInit (pc := 1) C (by omega) (GW_t (i := 129) (by decide +kernel) rfl) oi_i oi_c (by decide) (Nat.le_of_ble_eq_true rfl) dX5_init_1 ?_
  refine M_aload_n (pc := 4) C dX5_init_4 rfl (by omega) ?_
  refine M_bipush (pc := 5) C (by decide) dX5_init_5 ?_
  refine M_newI (pc := 7) C ac_int (by decide) ⟨by decide, by decide⟩ dX5_init_7 ?_
  refine A_putF (pc := 9) C (a := a) (g := a + 1) fl_X5_9 rfl rfl ⟨rfl, rfl, _, rfl, fun a => ⟨rfl, rfl⟩⟩ (GW_t (i := 130) (by decide +kernel) rfl) rfl rfl rfl ((newT_o (by omega)).trans hT) dX5_init_9 ?_
  refine M_aload_n (pc := 12) C dX5_init_12 rfl (by omega) ?_
  refine M_bipush (pc := 13) C (by decide) dX5_init_13 ?_
  refine M_newI (pc := 15) C ac_int (by decide) ⟨by decide, by decide⟩ dX5_init_15 ?_
  refine A_putF (pc := 17) C (a := a) (g := a + 2) fl_X5_15 rfl rfl ⟨rfl, rfl, _, rfl, fun a => ⟨rfl, rfl⟩⟩ (GW_t (i := 132) (by decide +kernel) rfl) rfl rfl rfl ((newT_o (by omega)).trans h1) dX5_init_17 ?_
  refine M_aload_n (pc := 20) C dX5_init_20 rfl (by omega) ?_
  refine M_iconst (pc := 21) C dX5_init_21 ?_
  refine A_putI (pc := 22) C fl_X5_18 rfl (by decide) (a := a) rfl h2 (by omega) dX5_init_22 ?_
  refine M_vretP (pc := 25) C rfl dX5_init_25 ⟨rfl, fun x hx => ?_⟩ rfl
  funext q
  rw [up_ne (by omega), newV_o (by omega), newV_o (by omega)]
theorem hdv_5 : ∀ j, j < 3 → (if fldI 5 j = true then parseFieldDescriptor (TX5 j).2.2.1 = some .int else ∃ ty, parseFieldDescriptor (TX5 j).2.2.1 = some ty ∧ defaultValue ty = .null) := fun j hj => by
  rcases (show j = 0 ∨ j = 1 ∨ j = 2 by omega) with rfl | rfl | rfl
  · rw [if_neg (by decide)]; exact ⟨_, rfl, rfl⟩
  · rw [if_neg (by decide)]; exact ⟨_, rfl, rfl⟩
  · rw [if_pos (by decide)]; rfl
def pX4T (T : Ty) (a : Nat) : Ty := fun i => if i = a then (9, 0, lkM [((a + 1 : Nat) : Int), ((a + 4 : Nat) : Int), ((a + 5 : Nat) : Int), ((a + 6 : Nat) : Int)]) else if i = a + 1 then (10, 0, lkM [((a + 2 : Nat) : Int), ((a + 3 : Nat) : Int)]) else if i = a + 2 ∨ i = a + 3 then (1, 10, lkN) else if i = a + 4 then (1, 10, lkN) else if i = a + 5 then (1, 10, lkN) else if i = a + 6 then (1, 24, lkN) else T i
theorem pX4T_eq {T : Ty} {a : Nat} (hT : T a = (9, 0, lkN)) : (iT (iT (iT (upL (tT (newT T (a + 1) 10 0) (a + 1)) a 0 ((a + 1 : Nat) : Int)) (a + 4) a 1 10) (a + 5) a 2 10) (a + 6) a 3 24) = pX4T T a := by
  have ht : tT (newT T (a + 1) 10 0) (a + 1) a = (9, 0, lkN) := by
    unfold tT
    rw [if_neg (by omega), if_neg (by omega)]
    exact (newT_o (by omega)).trans hT
  have h0 := upL_s (i := a) (j := 0) (x := ((a + 1 : Nat) : Int)) ht
  have h1 := iT_s (N := a + 4) (k := 1) (n := 10) (by omega) h0
  have h2 := iT_s (N := a + 5) (k := 2) (n := 10) (by omega) h1
  have h3 := iT_s (N := a + 6) (k := 3) (n := 24) (by omega) h2
  funext i
  unfold pX4T
  by_cases h : i = a
  · rw [h, h3, if_pos rfl]
    refine congrArg (fun f => (9, 0, f)) ?_
    funext q
    rcases q with _ | _ | _ | _ | q <;> rfl
  · rw [if_neg h]
    by_cases e6 : i = a + 6
    · rw [e6, if_neg (by omega), if_neg (by omega), if_neg (by omega), if_neg (by omega), if_pos rfl]
      exact iT_n (by omega)
    by_cases e5 : i = a + 5
    · rw [e5, if_neg (by omega), if_neg (by omega), if_neg (by omega), if_pos rfl]
      exact (iT_o (by omega) (by omega)).trans (iT_n (by omega))
    by_cases e4 : i = a + 4
    · rw [e4, if_neg (by omega), if_neg (by omega), if_pos rfl]
      exact (iT_o (by omega) (by omega)).trans ((iT_o (by omega) (by omega)).trans (iT_n (by omega)))
    refine (iT_o h e6).trans ((iT_o h e5).trans ((iT_o h e4).trans ((upL_o h).trans ?_)))
    unfold tT
    by_cases e1 : i = a + 1
    · rw [if_pos e1, if_pos e1]
    rw [if_neg e1, if_neg e1]
    by_cases e2 : i = a + 2 ∨ i = a + 3
    · rw [if_pos (by omega), if_pos e2]
    rw [if_neg (by omega), if_neg e2, if_neg e4, if_neg e5, if_neg e6]
    exact newT_o e1
theorem c_X4_init {T : Ty} {v : Ct} {a : Nat} (hT : T a = (9, 0, lkN)) : RunsP mX4_init 2 6 67 [vR ((a : Nat) : Int)] (a + 1) T v (a + 7) (pX4T T a) (fun r1 v1 => r1 = none ∧ fO a (a + 7) v v1) := by
  rw [← pX4T_eq hT]
  have ht : tT (newT T (a + 1) 10 0) (a + 1) a = (9, 0, lkN) := by
    unfold tT
    rw [if_neg (by omega), if_neg (by omega)]
    exact (newT_o (by omega)).trans hT
  have h0 := upL_s (i := a) (j := 0) (x := ((a + 1 : Nat) : Int)) ht
  have h1 := iT_s (N := a + 4) (k := 1) (n := 10) (by omega) h0
  have h2 := iT_s (N := a + 5) (k := 2) (n := 10) (by omega) h1
  have h3 := iT_s (N := a + 6) (k := 3) (n := 24) (by omega) h2
  refine RunsP.of (by decide) (Nat.le_of_ble_eq_true rfl) fun κ C => ?_
  refine M_aload_n (pc := 0) C dX4_init_0 rfl (by omega) ?_
  refine M_objInit (pc := 1) C (by omega) (GW_t (i := 123) (by decide +kernel) rfl) oi_i oi_c (by decide) (Nat.le_of_ble_eq_true rfl) dX4_init_1 ?_
  refine M_aload_n (pc := 4) C dX4_init_4 rfl (by omega) ?_
  refine M_new (pc := 5) C cf_5 (GW_t (i := 124) (by decide +kernel) rfl) (GW_t (i := 125) (by decide +kernel) rfl) (GW_t (i := 7) (by decide +kernel) rfl) ⟨by decide, by decide⟩ hdv_5 dX4_init_5 ?_
  refine M_dup (pc := 8) C rfl dX4_init_8 ?_
  refine M_callI (pc := 9) C (c_X5_init (a := a + 1) newT_n) yw_X5_init lk_X4_11 (by omega) rfl dX4_init_9 rfl (Nat.le_of_ble_eq_true rfl) (by decide) ⟨by decide, by decide⟩ (fun r v2 h => h.1) (fun v2 p2 => ?_)
  refine A_putF (pc := 12) C (a := a) (g := a + 1) fl_X4_12 rfl rfl ⟨rfl, rfl, _, rfl, fun a => ⟨rfl, rfl⟩⟩ (GW_t (i := 145) (by decide +kernel) rfl) rfl rfl rfl ht dX4_init_12 ?_
  refine M_aload_n (pc := 15) C dX4_init_15 rfl (by omega) ?_
  refine M_bipush (pc := 16) C (by decide) dX4_init_16 ?_
  refine M_newI (pc := 18) C ac_int (by decide) ⟨by decide, by decide⟩ dX4_init_18 ?_
  refine A_putF (pc := 20) C (a := a) (g := a + 4) fl_X4_18 rfl rfl ⟨rfl, rfl, _, rfl, fun a => ⟨rfl, rfl⟩⟩ (GW_t (i := 146) (by decide +kernel) rfl) rfl rfl rfl ((newT_o (by omega)).trans h0) dX4_init_20 ?_
  refine M_aload_n (pc := 23) C dX4_init_23 rfl (by omega) ?_
  refine M_bipush (pc := 24) C (by decide) dX4_init_24 ?_
  refine M_newI (pc := 26) C ac_int (by decide) ⟨by decide, by decide⟩ dX4_init_26 ?_
  refine A_putF (pc := 28) C (a := a) (g := a + 5) fl_X4_22 rfl rfl ⟨rfl, rfl, _, rfl, fun a => ⟨rfl, rfl⟩⟩ (GW_t (i := 147) (by decide +kernel) rfl) rfl rfl rfl ((newT_o (by omega)).trans h1) dX4_init_28 ?_
  refine M_aload_n (pc := 31) C dX4_init_31 rfl (by omega) ?_
  refine M_bipush (pc := 32) C (by decide) dX4_init_32 ?_
  refine M_newI (pc := 34) C ac_int (by decide) ⟨by decide, by decide⟩ dX4_init_34 ?_
  refine A_putF (pc := 36) C (a := a) (g := a + 6) fl_X4_25 rfl rfl ⟨rfl, rfl, _, rfl, fun a => ⟨rfl, rfl⟩⟩ (GW_t (i := 148) (by decide +kernel) rfl) rfl rfl rfl ((newT_o (by omega)).trans h2) dX4_init_36 ?_
  refine M_vretP (pc := 39) C rfl dX4_init_39 ⟨rfl, fun x hx => ?_⟩ rfl
  rw [newV_o (by omega), newV_o (by omega), newV_o (by omega), p2.2 x (by omega), newV_o (by omega)]
def pX1T (T : Ty) (a : Nat) : Ty := fun i => if i = a then (6, 0, lkM [((a + 1 : Nat) : Int), ((a + 4 : Nat) : Int), ((a + 5 : Nat) : Int), ((a + 6 : Nat) : Int)]) else if i = a + 1 then (10, 0, lkM [((a + 2 : Nat) : Int), ((a + 3 : Nat) : Int)]) else if i = a + 2 ∨ i = a + 3 then (1, 10, lkN) else if i = a + 4 then (1, 10, lkN) else if i = a + 5 then (1, 1024, lkN) else if i = a + 6 then (1, 1024, lkN) else T i
theorem pX1T_eq {T : Ty} {a : Nat} (hT : T a = (6, 0, lkN)) : (iT (iT (iT (upL (tT (newT T (a + 1) 10 0) (a + 1)) a 0 ((a + 1 : Nat) : Int)) (a + 4) a 1 10) (a + 5) a 2 1024) (a + 6) a 3 1024) = pX1T T a := by
  have ht : tT (newT T (a + 1) 10 0) (a + 1) a = (6, 0, lkN) := by
    unfold tT
    rw [if_neg (by omega), if_neg (by omega)]
    exact (newT_o (by omega)).trans hT
  have h0 := upL_s (i := a) (j := 0) (x := ((a + 1 : Nat) : Int)) ht
  have h1 := iT_s (N := a + 4) (k := 1) (n := 10) (by omega) h0
  have h2 := iT_s (N := a + 5) (k := 2) (n := 1024) (by omega) h1
  have h3 := iT_s (N := a + 6) (k := 3) (n := 1024) (by omega) h2
  funext i
  unfold pX1T
  by_cases h : i = a
  · rw [h, h3, if_pos rfl]
    refine congrArg (fun f => (6, 0, f)) ?_
    funext q
    rcases q with _ | _ | _ | _ | q <;> rfl
  · rw [if_neg h]
    by_cases e6 : i = a + 6
    · rw [e6, if_neg (by omega), if_neg (by omega), if_neg (by omega), if_neg (by omega), if_pos rfl]
      exact iT_n (by omega)
    by_cases e5 : i = a + 5
    · rw [e5, if_neg (by omega), if_neg (by omega), if_neg (by omega), if_pos rfl]
      exact (iT_o (by omega) (by omega)).trans (iT_n (by omega))
    by_cases e4 : i = a + 4
    · rw [e4, if_neg (by omega), if_neg (by omega), if_pos rfl]
      exact (iT_o (by omega) (by omega)).trans ((iT_o (by omega) (by omega)).trans (iT_n (by omega)))
    refine (iT_o h e6).trans ((iT_o h e5).trans ((iT_o h e4).trans ((upL_o h).trans ?_)))
    unfold tT
    by_cases e1 : i = a + 1
    · rw [if_pos e1, if_pos e1]
    rw [if_neg e1, if_neg e1]
    by_cases e2 : i = a + 2 ∨ i = a + 3
    · rw [if_pos (by omega), if_pos e2]
    rw [if_neg (by omega), if_neg e2, if_neg e4, if_neg e5, if_neg e6]
    exact newT_o e1
theorem c_X1_init {T : Ty} {v : Ct} {a : Nat} (hT : T a = (6, 0, lkN)) : RunsP mX1_init 2 6 2081 [vR ((a : Nat) : Int)] (a + 1) T v (a + 7) (pX1T T a) (fun r1 v1 => r1 = none ∧ fO a (a + 7) v v1) := by
  rw [← pX1T_eq hT]
  have ht : tT (newT T (a + 1) 10 0) (a + 1) a = (6, 0, lkN) := by
    unfold tT
    rw [if_neg (by omega), if_neg (by omega)]
    exact (newT_o (by omega)).trans hT
  have h0 := upL_s (i := a) (j := 0) (x := ((a + 1 : Nat) : Int)) ht
  have h1 := iT_s (N := a + 4) (k := 1) (n := 10) (by omega) h0
  have h2 := iT_s (N := a + 5) (k := 2) (n := 1024) (by omega) h1
  have h3 := iT_s (N := a + 6) (k := 3) (n := 1024) (by omega) h2
  refine RunsP.of (by decide) (Nat.le_of_ble_eq_true rfl) fun κ C => ?_
  refine M_aload_n (pc := 0) C dX1_init_0 rfl (by omega) ?_
  refine M_objInit (pc := 1) C (by omega) (GW_t (i := 163) (by decide +kernel) rfl) oi_i oi_c (by decide) (Nat.le_of_ble_eq_true rfl) dX1_init_1 ?_
  refine M_aload_n (pc := 4) C dX1_init_4 rfl (by omega) ?_
  refine M_new (pc := 5) C cf_5 (GW_t (i := 164) (by decide +kernel) rfl) (GW_t (i := 125) (by decide +kernel) rfl) (GW_t (i := 7) (by decide +kernel) rfl) ⟨by decide, by decide⟩ hdv_5 dX1_init_5 ?_
  refine M_dup (pc := 8) C rfl dX1_init_8 ?_
  refine M_callI (pc := 9) C (c_X5_init (a := a + 1) newT_n) yw_X5_init lk_X1_11 (by omega) rfl dX1_init_9 rfl (Nat.le_of_ble_eq_true rfl) (by decide) ⟨by decide, by decide⟩ (fun r v2 h => h.1) (fun v2 p2 => ?_)
  refine A_putF (pc := 12) C (a := a) (g := a + 1) fl_X1_12 rfl rfl ⟨rfl, rfl, _, rfl, fun a => ⟨rfl, rfl⟩⟩ (GW_t (i := 166) (by decide +kernel) rfl) rfl rfl rfl ht dX1_init_12 ?_
  refine M_aload_n (pc := 15) C dX1_init_15 rfl (by omega) ?_
  refine M_bipush (pc := 16) C (by decide) dX1_init_16 ?_
  refine M_newI (pc := 18) C ac_int (by decide) ⟨by decide, by decide⟩ dX1_init_18 ?_
  refine A_putF (pc := 20) C (a := a) (g := a + 4) fl_X1_18 rfl rfl ⟨rfl, rfl, _, rfl, fun a => ⟨rfl, rfl⟩⟩ (GW_t (i := 167) (by decide +kernel) rfl) rfl rfl rfl ((newT_o (by omega)).trans h0) dX1_init_20 ?_
  refine M_aload_n (pc := 23) C dX1_init_23 rfl (by omega) ?_
  refine M_sipush (pc := 24) C (by decide) dX1_init_24 ?_
  refine M_newI (pc := 27) C ac_int (by decide) ⟨by decide, by decide⟩ dX1_init_27 ?_
  refine A_putF (pc := 29) C (a := a) (g := a + 5) fl_X1_22 rfl rfl ⟨rfl, rfl, _, rfl, fun a => ⟨rfl, rfl⟩⟩ (GW_t (i := 168) (by decide +kernel) rfl) rfl rfl rfl ((newT_o (by omega)).trans h1) dX1_init_29 ?_
  refine M_aload_n (pc := 32) C dX1_init_32 rfl (by omega) ?_
  refine M_sipush (pc := 33) C (by decide) dX1_init_33 ?_
  refine M_newI (pc := 36) C ac_int (by decide) ⟨by decide, by decide⟩ dX1_init_36 ?_
  refine A_putF (pc := 38) C (a := a) (g := a + 6) fl_X1_25 rfl rfl ⟨rfl, rfl, _, rfl, fun a => ⟨rfl, rfl⟩⟩ (GW_t (i := 169) (by decide +kernel) rfl) rfl rfl rfl ((newT_o (by omega)).trans h2) dX1_init_38 ?_
  refine M_vretP (pc := 41) C rfl dX1_init_41 ⟨rfl, fun x hx => ?_⟩ rfl
  rw [newV_o (by omega), newV_o (by omega), newV_o (by omega), p2.2 x (by omega), newV_o (by omega)]
