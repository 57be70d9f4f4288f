theorem hdv_2 : ∀ j, j < 2 → (if fldI 2 j = true then parseFieldDescriptor (TX2 j).2.2.1 = some .int else ∃ ty, parseFieldDescriptor (TX2 j).2.2.1 = some ty ∧ defaultValue ty = .null) := fun j hj => by
  rcases (show j = 0 ∨ j = 1 by omega) with rfl | rfl
  all_goals first | (rw [if_neg (by decide)]; exact ⟨_, rfl, rfl⟩) | (rw [if_pos (by decide)]; rfl)
theorem hdv_6 : ∀ j, j < 2 → (if fldI 6 j = true then parseFieldDescriptor (TX6 j).2.2.1 = some .int else ∃ ty, parseFieldDescriptor (TX6 j).2.2.1 = some ty ∧ defaultValue ty = .null) := fun j hj => by
  rcases (show j = 0 ∨ j = 1 by omega) with rfl | rfl
  all_goals first | (rw [if_neg (by decide)]; exact ⟨_, rfl, rfl⟩) | (rw [if_pos (by decide)]; rfl)
theorem hdv_3 : ∀ j, j < 4 → (if fldI 3 j = true then parseFieldDescriptor (TX3 j).2.2.1 = some .int else ∃ ty, parseFieldDescriptor (TX3 j).2.2.1 = some ty ∧ defaultValue ty = .null) := fun j hj => by
  rcases (show j = 0 ∨ j = 1 ∨ j = 2 ∨ j = 3 by omega) with rfl | rfl | rfl | rfl
  all_goals first | (rw [if_neg (by decide)]; exact ⟨_, rfl, rfl⟩) | (rw [if_pos (by decide)]; rfl)
theorem hdv_4 : ∀ j, j < 4 → (if fldI 4 j = true then parseFieldDescriptor (TX4 j).2.2.1 = some .int else ∃ ty, parseFieldDescriptor (TX4 j).2.2.1 = some ty ∧ defaultValue ty = .null) := fun j hj => by
  rcases (show j = 0 ∨ j = 1 ∨ j = 2 ∨ j = 3 by omega) with rfl | rfl | rfl | rfl
  all_goals first | (rw [if_neg (by decide)]; exact ⟨_, rfl, rfl⟩) | (rw [if_pos (by decide)]; rfl)
theorem hdv_1 : ∀ j, j < 4 → (if fldI 1 j = true then parseFieldDescriptor (TX1 j).2.2.1 = some .int else ∃ ty, parseFieldDescriptor (TX1 j).2.2.1 = some ty ∧ defaultValue ty = .null) := fun j hj => by
  rcases (show j = 0 ∨ j = 1 ∨ j = 2 ∨ j = 3 by omega) with rfl | rfl | rfl | rfl
  all_goals first | (rw [if_neg (by decide)]; exact ⟨_, rfl, rfl⟩) | (rw [if_pos (by decide)]; rfl)
def A1 (T : Ty) : Ty := upL (dT (newT T 1 5 0) 1) 0 0 ((1 : Nat) : Int)
def A2 (T : Ty) : Ty := upL (hiT (newT (A1 T) 10 7 0) 10 6) 0 1 ((10 : Nat) : Int)
def A3 (T : Ty) : Ty := upL (newT (A2 T) 66 4 2) 0 2 ((66 : Nat) : Int)
def A4 (T : Ty) : Ty := upL (upL (newT (newT (A3 T) 67 11 0) 68 1 60) 67 0 ((68 : Nat) : Int)) 0 3 ((67 : Nat) : Int)
def A5 (T : Ty) : Ty := upL (newT (A4 T) 69 8 0) 0 4 ((69 : Nat) : Int)
def A6 (T : Ty) : Ty := upL (pX4T (newT (A5 T) 70 9 0) 70) 0 5 ((70 : Nat) : Int)
def A7 (T : Ty) : Ty := upL (pX1T (newT (A6 T) 77 6 0) 77) 0 6 ((77 : Nat) : Int)
theorem pX4T_o {T : Ty} {a i : Nat} (h : i < a ∨ a + 7 ≤ i) : pX4T T a i = T i := by
  unfold pX4T
  rw [if_neg (by omega), if_neg (by omega), if_neg (by omega), if_neg (by omega), if_neg (by omega), if_neg (by omega)]
theorem pX1T_o {T : Ty} {a i : Nat} (h : i < a ∨ a + 7 ≤ i) : pX1T T a i = T i := by
  unfold pX1T
  rw [if_neg (by omega), if_neg (by omega), if_neg (by omega), if_neg (by omega), if_neg (by omega), if_neg (by omega)]
theorem c_X7_init {T : Ty} {v : Ct} (hT : T 0 = (12, 0, lkN)) : RunsP mX7_init 3 83 3163 [vR 0] 1 T v 84 (A7 T) (fun r1 v1 => r1 = none ∧ (v1 1 8 = 0 ∧ v1 1 9 = 0 ∧ v1 1 10 = 0) ∧ (∀ q, q < 24 → v1 2 q = 0 ∧ v1 3 q = -1 ∧ v1 4 q = 0) ∧ (∀ q, q < 10 → v1 5 q = -1 ∧ v1 6 q = -1 ∧ v1 7 q = -1 ∧ v1 8 q = 0 ∧ v1 9 q = 0) ∧ v1 10 1 = 0 ∧ (∀ q, q < 6 → v1 11 q = ((12 + 9 * q : Nat) : Int)) ∧ (∀ q, v1 66 q = -1) ∧ v1 67 1 = 0 ∧ v1 68 = fun _ => 0) := by
  have g1 : dT (newT T 1 5 0) 1 0 = (12, 0, lkN) := (dT_o (Or.inl (by decide))).trans ((newT_o (by decide)).trans hT)
  have g2 := (hiT_o (T := newT (A1 T) 10 7 0) (a := 10) (x := 0) (by decide) 6).trans ((newT_o (by decide)).trans (upL_s (j := 0) (x := ((1 : Nat) : Int)) g1))
  have g3 := (newT_o (N := 66) (k := 4) (n := 2) (a := 0) (by decide)).trans (upL_s (j := 1) (x := ((10 : Nat) : Int)) g2)
  have g4 := (upL_o (i := 67) (j := 0) (a := 0) (x := ((68 : Nat) : Int)) (by decide)).trans ((newT_o (N := 68) (k := 1) (n := 60) (a := 0) (by decide)).trans ((newT_o (N := 67) (k := 11) (n := 0) (a := 0) (by decide)).trans (upL_s (j := 2) (x := ((66 : Nat) : Int)) g3)))
  have g5 := (newT_o (N := 69) (k := 8) (n := 0) (a := 0) (by decide)).trans (upL_s (j := 3) (x := ((67 : Nat) : Int)) g4)
  have g6 := (pX4T_o (T := newT (A5 T) 70 9 0) (a := 70) (i := 0) (Or.inl (by decide))).trans ((newT_o (by decide)).trans (upL_s (j := 4) (x := ((69 : Nat) : Int)) g5))
  have g7 := (pX1T_o (T := newT (A6 T) 77 6 0) (a := 77) (i := 0) (Or.inl (by decide))).trans ((newT_o (by decide)).trans (upL_s (j := 5) (x := ((70 : Nat) : Int)) g6))
  refine RunsP.of (by decide) (Nat.le_of_ble_eq_true rfl) fun κ C => ?_
  refine M_aload_n (pc := 0) C dX7_init_0 rfl (by decide) ?_
  refine M_objInit (pc := 1) C (by decide) (GW_t (i := 22) (by decide +kernel) rfl) oi_i oi_c (by decide) (Nat.le_of_ble_eq_true rfl) dX7_init_1 ?_
  refine M_aload_n (pc := 4) C dX7_init_4 rfl (by decide) ?_
  refine M_new (pc := 5) C cf_0 (GW_t (i := 25) (by decide +kernel) rfl) (GW_t (i := 26) (by decide +kernel) rfl) (GW_t (i := 2) (by decide +kernel) rfl) ⟨by decide, by decide⟩ hdv_0 dX7_init_5 ?_
  refine M_dup (pc := 8) C rfl dX7_init_8 ?_
  refine M_callI (pc := 9) C (c_X0_init (a := 1) newT_n) yw_X0_init lk_X7_11 (by decide) rfl dX7_init_9 rfl (Nat.le_of_ble_eq_true rfl) (by decide) ⟨by decide, by decide⟩ (fun r v2 h => h.1) (fun v1 p_v1 => ?_)
  refine A_putF (pc := 12) C (a := 0) (g := 1) fl_X7_12 rfl rfl ⟨rfl, rfl, _, rfl, fun a => ⟨rfl, rfl⟩⟩ (GW_t (i := 179) (by decide +kernel) rfl) rfl rfl rfl g1 dX7_init_12 ?_
  refine M_aload_n (pc := 15) C dX7_init_15 rfl (by decide) ?_
  refine M_new (pc := 16) C cf_2 (GW_t (i := 70) (by decide +kernel) rfl) (GW_t (i := 71) (by decide +kernel) rfl) (GW_t (i := 3) (by decide +kernel) rfl) ⟨by decide, by decide⟩ hdv_2 dX7_init_16 ?_
  refine M_dup (pc := 19) C rfl dX7_init_19 ?_
  refine M_callI (pc := 20) C (c_X2_init (a := 10) newT_n (by decide)) yw_X2_init lk_X7_18 (by decide) rfl dX7_init_20 rfl (Nat.le_of_ble_eq_true rfl) (by decide) ⟨by decide, by decide⟩ (fun r v2 h => h.1) (fun v2 p_v2 => ?_)
  refine A_putF (pc := 23) C (a := 0) (g := 10) fl_X7_19 rfl rfl ⟨rfl, rfl, _, rfl, fun a => ⟨rfl, rfl⟩⟩ (GW_t (i := 180) (by decide +kernel) rfl) rfl rfl rfl g2 dX7_init_23 ?_
  refine M_aload_n (pc := 26) C dX7_init_26 rfl (by decide) ?_
  refine M_iconst (pc := 27) C dX7_init_27 ?_
  refine M_newD (pc := 28) C (GW_t (i := 25) (by decide +kernel) rfl) (by decide) ⟨by decide, by decide⟩ dX7_init_28 ?_
  refine A_putF (pc := 31) C (a := 0) (g := 66) fl_X7_23 rfl rfl ⟨rfl, rfl, _, rfl, fun a => ⟨rfl, rfl⟩⟩ (GW_t (i := 181) (by decide +kernel) rfl) rfl rfl rfl g3 dX7_init_31 ?_
  refine M_aload_n (pc := 34) C dX7_init_34 rfl (by decide) ?_
  refine M_new (pc := 35) C cf_6 (GW_t (i := 86) (by decide +kernel) rfl) (GW_t (i := 87) (by decide +kernel) rfl) (GW_t (i := 4) (by decide +kernel) rfl) ⟨by decide, by decide⟩ hdv_6 dX7_init_35 ?_
  refine M_dup (pc := 38) C rfl dX7_init_38 ?_
  refine M_callI (pc := 39) C (c_X6_init (a := 67) newT_n (by decide)) yw_X6_init lk_X7_29 (by decide) rfl dX7_init_39 rfl (Nat.le_of_ble_eq_true rfl) (by decide) ⟨by decide, by decide⟩ (fun r v2 h => h.1) (fun v4 p_v4 => ?_)
  refine A_putF (pc := 42) C (a := 0) (g := 67) fl_X7_30 rfl rfl ⟨rfl, rfl, _, rfl, fun a => ⟨rfl, rfl⟩⟩ (GW_t (i := 182) (by decide +kernel) rfl) rfl rfl rfl g4 dX7_init_42 ?_
  refine M_aload_n (pc := 45) C dX7_init_45 rfl (by decide) ?_
  refine M_new (pc := 46) C cf_3 (GW_t (i := 99) (by decide +kernel) rfl) (GW_t (i := 100) (by decide +kernel) rfl) (GW_t (i := 5) (by decide +kernel) rfl) ⟨by decide, by decide⟩ hdv_3 dX7_init_46 ?_
  refine M_dup (pc := 49) C rfl dX7_init_49 ?_
  refine M_callI (pc := 50) C (c_X3_init (a := 69) newT_n) yw_X3_init lk_X7_36 (by decide) rfl dX7_init_50 rfl (Nat.le_of_ble_eq_true rfl) (by decide) ⟨by decide, by decide⟩ (fun r v2 h => h.1) (fun v5 p_v5 => ?_)
  refine A_putF (pc := 53) C (a := 0) (g := 69) fl_X7_37 rfl rfl ⟨rfl, rfl, _, rfl, fun a => ⟨rfl, rfl⟩⟩ (GW_t (i := 183) (by decide +kernel) rfl) rfl rfl rfl g5 dX7_init_53 ?_
  refine M_aload_n (pc := 56) C dX7_init_56 rfl (by decide) ?_
  refine M_new (pc := 57) C cf_4 (GW_t (i := 118) (by decide +kernel) rfl) (GW_t (i := 119) (by decide +kernel) rfl) (GW_t (i := 6) (by decide +kernel) rfl) ⟨by decide, by decide⟩ hdv_4 dX7_init_57 ?_
  refine M_dup (pc := 60) C rfl dX7_init_60 ?_
  refine M_callI (pc := 61) C (c_X4_init (a := 70) newT_n) yw_X4_init lk_X7_43 (by decide) rfl dX7_init_61 rfl (Nat.le_of_ble_eq_true rfl) (by decide) ⟨by decide, by decide⟩ (fun r v2 h => h.1) (fun v6 p_v6 => ?_)
  refine A_putF (pc := 64) C (a := 0) (g := 70) fl_X7_44 rfl rfl ⟨rfl, rfl, _, rfl, fun a => ⟨rfl, rfl⟩⟩ (GW_t (i := 184) (by decide +kernel) rfl) rfl rfl rfl g6 dX7_init_64 ?_
  refine M_aload_n (pc := 67) C dX7_init_67 rfl (by decide) ?_
  refine M_new (pc := 68) C cf_1 (GW_t (i := 158) (by decide +kernel) rfl) (GW_t (i := 159) (by decide +kernel) rfl) (GW_t (i := 8) (by decide +kernel) rfl) ⟨by decide, by decide⟩ hdv_1 dX7_init_68 ?_
  refine M_dup (pc := 71) C rfl dX7_init_71 ?_
  refine M_callI (pc := 72) C (c_X1_init (a := 77) newT_n) yw_X1_init lk_X7_50 (by decide) rfl dX7_init_72 rfl (Nat.le_of_ble_eq_true rfl) (by decide) ⟨by decide, by decide⟩ (fun r v2 h => h.1) (fun v7 p_v7 => ?_)
  refine A_putF (pc := 75) C (a := 0) (g := 77) fl_X7_51 rfl rfl ⟨rfl, rfl, _, rfl, fun a => ⟨rfl, rfl⟩⟩ (GW_t (i := 185) (by decide +kernel) rfl) rfl rfl rfl g7 dX7_init_75 ?_
  obtain ⟨-, e1, e2, e3, e4⟩ := p_v1
  obtain ⟨-, f1, f2, f3⟩ := p_v2
  obtain ⟨-, p4⟩ := p_v4
  subst p4
  have k7 : ∀ x, x < 77 → v7 x = v6 x := fun x hx => (p_v7.2 x (Or.inl hx)).trans (newV_o (by omega))
  have k6 : ∀ x, x < 70 → v6 x = v5 x := fun x hx => (p_v6.2 x (Or.inl hx)).trans (newV_o (by omega))
  have k5 : ∀ x, x < 69 → v7 x = up (newV (newV (newV v2 66 (-1)) 67 0) 68 0) 67 1 0 x := fun x hx => (k7 x (by omega)).trans ((k6 x (by omega)).trans ((p_v5.2 x (Or.inl hx)).trans (newV_o (by omega))))
  have k4 : ∀ x, x < 66 → v7 x = v2 x := fun x hx => (k5 x (by omega)).trans (by funext q; rw [up_ne (by omega), newV_o (by omega), newV_o (by omega), newV_o (by omega)])
  have k2 : ∀ x, x < 10 → v7 x = v1 x := fun x hx => (k4 x (by omega)).trans ((f1 x hx).trans (newV_o (by omega)))
  refine M_vretP (pc := 78) C rfl dX7_init_78 ⟨rfl, ?_, fun q hq => ?_, fun q hq => ?_, ?_, fun q hq => ?_, fun q => ?_, ?_, ?_⟩ rfl
  · rw [k2 1 (by decide)]; exact e2
  · rw [k2 2 (by decide), k2 3 (by decide), k2 4 (by decide)]; exact e3 q hq
  · rw [k2 5 (by decide), k2 6 (by decide), k2 7 (by decide), k2 8 (by decide), k2 9 (by decide)]; exact e4 q hq
  · rw [k4 10 (by decide)]; exact f2
  · rw [k4 11 (by decide)]; exact f3 q hq
  · rw [k5 66 (by decide), up_ne (by decide), newV_o (by decide), newV_o (by decide), newV_n]
  · rw [k5 67 (by decide)]; exact up_eq
  · rw [k5 68 (by decide)]
    funext q
    rw [up_ne (by decide), newV_n]
