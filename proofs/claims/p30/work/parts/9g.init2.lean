def iT (T : Ty) (N a k n : Nat) : Ty := upL (newT T N 1 n) a k ((N : Nat) : Int)
theorem iT_o {T : Ty} {N a k n i : Nat} (h1 : i ≠ a) (h2 : i ≠ N) : iT T N a k n i = T i := (upL_o h1).trans (newT_o h2)
theorem iT_n {T : Ty} {N a k n : Nat} (h : N ≠ a) : iT T N a k n N = (1, n, lkN) := (upL_o h).trans newT_n
theorem iT_s {T : Ty} {N a k n k0 n0 : Nat} {lk : Nat → Int} (h : a ≠ N) (hT : T a = (k0, n0, lk)) : iT T N a k n a = (k0, n0, fun q => if q = k then ((N : Nat) : Int) else lk q) := upL_s ((newT_o h).trans hT)
def dT (T : Ty) (a : Nat) : Ty := fun i => if i = a then (5, 0, lkD a) else if a < i ∧ i ≤ a + 3 then (1, 24, lkN) else if a + 3 < i ∧ i ≤ a + 8 then (1, 10, lkN) else T i
theorem dT_eq {T : Ty} {a : Nat} (hT : T a = (5, 0, lkN)) : (iT (iT (iT (iT (iT (iT (iT (iT T (a + 1) a 0 24) (a + 2) a 1 24) (a + 3) a 2 24) (a + 4) a 3 10) (a + 5) a 4 10) (a + 6) a 5 10) (a + 7) a 6 10) (a + 8) a 7 10) = dT T a := by
  have h1 := iT_s (N := a + 1) (k := 0) (n := 24) (by omega) hT
  have h2 := iT_s (N := a + 2) (k := 1) (n := 24) (by omega) h1
  have h3 := iT_s (N := a + 3) (k := 2) (n := 24) (by omega) h2
  have h4 := iT_s (N := a + 4) (k := 3) (n := 10) (by omega) h3
  have h5 := iT_s (N := a + 5) (k := 4) (n := 10) (by omega) h4
  have h6 := iT_s (N := a + 6) (k := 5) (n := 10) (by omega) h5
  have h7 := iT_s (N := a + 7) (k := 6) (n := 10) (by omega) h6
  have h8 := iT_s (N := a + 8) (k := 7) (n := 10) (by omega) h7
  funext i
  unfold dT
  by_cases h : i = a
  · rw [h, h8, if_pos rfl]
    refine congrArg (fun f => (5, 0, f)) ?_
    funext q
    unfold lkD lkN
    repeat' split
    all_goals omega
  · rw [if_neg h]
    by_cases e8 : i = a + 8
    · rw [e8]
      refine (iT_n (by omega)).trans ?_
      rw [if_neg (by omega), if_pos (by omega)]
    by_cases e7 : i = a + 7
    · rw [e7]
      refine ((iT_o (by omega) (by omega)).trans (iT_n (by omega))).trans ?_
      rw [if_neg (by omega), if_pos (by omega)]
    by_cases e6 : i = a + 6
    · rw [e6]
      refine ((iT_o (by omega) (by omega)).trans ((iT_o (by omega) (by omega)).trans (iT_n (by omega)))).trans ?_
      rw [if_neg (by omega), if_pos (by omega)]
    by_cases e5 : i = a + 5
    · rw [e5]
      refine ((iT_o (by omega) (by omega)).trans ((iT_o (by omega) (by omega)).trans ((iT_o (by omega) (by omega)).trans (iT_n (by omega))))).trans ?_
      rw [if_neg (by omega), if_pos (by omega)]
    by_cases e4 : i = a + 4
    · rw [e4]
      refine ((iT_o (by omega) (by omega)).trans ((iT_o (by omega) (by omega)).trans ((iT_o (by omega) (by omega)).trans ((iT_o (by omega) (by omega)).trans (iT_n (by omega)))))).trans ?_
      rw [if_neg (by omega), if_pos (by omega)]
    by_cases e3 : i = a + 3
    · rw [e3]
      refine ((iT_o (by omega) (by omega)).trans ((iT_o (by omega) (by omega)).trans ((iT_o (by omega) (by omega)).trans ((iT_o (by omega) (by omega)).trans ((iT_o (by omega) (by omega)).trans (iT_n (by omega))))))).trans ?_
      rw [if_pos (by omega)]
    by_cases e2 : i = a + 2
    · rw [e2]
      refine ((iT_o (by omega) (by omega)).trans ((iT_o (by omega) (by omega)).trans ((iT_o (by omega) (by omega)).trans ((iT_o (by omega) (by omega)).trans ((iT_o (by omega) (by omega)).trans ((iT_o (by omega) (by omega)).trans (iT_n (by omega)))))))).trans ?_
      rw [if_pos (by omega)]
    by_cases e1 : i = a + 1
    · rw [e1]
      refine ((iT_o (by omega) (by omega)).trans ((iT_o (by omega) (by omega)).trans ((iT_o (by omega) (by omega)).trans ((iT_o (by omega) (by omega)).trans ((iT_o (by omega) (by omega)).trans ((iT_o (by omega) (by omega)).trans ((iT_o (by omega) (by omega)).trans (iT_n (by omega))))))))).trans ?_
      rw [if_pos (by omega)]
    rw [if_neg (by omega), if_neg (by omega)]
    exact (iT_o h e8).trans ((iT_o h e7).trans ((iT_o h e6).trans ((iT_o h e5).trans ((iT_o h e4).trans ((iT_o h e3).trans ((iT_o h e2).trans (iT_o h e1)))))))
def eD (v : Ct) (a : Nat) (v1 : Ct) : Prop := (∀ x, x < a ∨ a + 9 ≤ x → v1 x = v x) ∧ (v1 a 8 = 0 ∧ v1 a 9 = 0 ∧ v1 a 10 = 0) ∧ (∀ q, q < 24 → v1 (a + 1) q = 0 ∧ v1 (a + 2) q = -1 ∧ v1 (a + 3) q = 0) ∧ ∀ q, q < 10 → v1 (a + 4) q = -1 ∧ v1 (a + 5) q = -1 ∧ v1 (a + 6) q = -1 ∧ v1 (a + 7) q = 0 ∧ v1 (a + 8) q = 0
theorem w0_o {v : Ct} {a x : Nat} (h : x < a ∨ a + 9 ≤ x) : (up (up (up (newV (newV (newV (newV (newV (newV (newV (newV v (a + 1) 0) (a + 2) 0) (a + 3) 0) (a + 4) 0) (a + 5) 0) (a + 6) 0) (a + 7) 0) (a + 8) 0) a 8 0) a 9 0) a 10 0) x = v x := by
  funext q
  rw [up_ne (by omega), up_ne (by omega), up_ne (by omega), newV_o (by omega), newV_o (by omega), newV_o (by omega), newV_o (by omega), newV_o (by omega), newV_o (by omega), newV_o (by omega), newV_o (by omega)]
theorem w0_a {v : Ct} {a : Nat} : (up (up (up (newV (newV (newV (newV (newV (newV (newV (newV v (a + 1) 0) (a + 2) 0) (a + 3) 0) (a + 4) 0) (a + 5) 0) (a + 6) 0) (a + 7) 0) (a + 8) 0) a 8 0) a 9 0) a 10 0) a 8 = 0 ∧ (up (up (up (newV (newV (newV (newV (newV (newV (newV (newV v (a + 1) 0) (a + 2) 0) (a + 3) 0) (a + 4) 0) (a + 5) 0) (a + 6) 0) (a + 7) 0) (a + 8) 0) a 8 0) a 9 0) a 10 0) a 9 = 0 ∧ (up (up (up (newV (newV (newV (newV (newV (newV (newV (newV v (a + 1) 0) (a + 2) 0) (a + 3) 0) (a + 4) 0) (a + 5) 0) (a + 6) 0) (a + 7) 0) (a + 8) 0) a 8 0) a 9 0) a 10 0) a 10 = 0 := ⟨by rw [up_n2 (by decide), up_n2 (by decide), up_eq], by rw [up_n2 (by decide), up_eq], up_eq⟩
theorem w0_1 {v : Ct} {a q : Nat} : (up (up (up (newV (newV (newV (newV (newV (newV (newV (newV v (a + 1) 0) (a + 2) 0) (a + 3) 0) (a + 4) 0) (a + 5) 0) (a + 6) 0) (a + 7) 0) (a + 8) 0) a 8 0) a 9 0) a 10 0) (a + 1) q = 0 := by
  rw [up_ne (by omega), up_ne (by omega), up_ne (by omega), newV_o (show a + 1 ≠ a + 8 by omega), newV_o (show a + 1 ≠ a + 7 by omega), newV_o (show a + 1 ≠ a + 6 by omega), newV_o (show a + 1 ≠ a + 5 by omega), newV_o (show a + 1 ≠ a + 4 by omega), newV_o (show a + 1 ≠ a + 3 by omega), newV_o (show a + 1 ≠ a + 2 by omega), newV_n]
theorem w0_3 {v : Ct} {a q : Nat} : (up (up (up (newV (newV (newV (newV (newV (newV (newV (newV v (a + 1) 0) (a + 2) 0) (a + 3) 0) (a + 4) 0) (a + 5) 0) (a + 6) 0) (a + 7) 0) (a + 8) 0) a 8 0) a 9 0) a 10 0) (a + 3) q = 0 := by
  rw [up_ne (by omega), up_ne (by omega), up_ne (by omega), newV_o (show a + 3 ≠ a + 8 by omega), newV_o (show a + 3 ≠ a + 7 by omega), newV_o (show a + 3 ≠ a + 6 by omega), newV_o (show a + 3 ≠ a + 5 by omega), newV_o (show a + 3 ≠ a + 4 by omega), newV_n]
theorem w0_7 {v : Ct} {a q : Nat} : (up (up (up (newV (newV (newV (newV (newV (newV (newV (newV v (a + 1) 0) (a + 2) 0) (a + 3) 0) (a + 4) 0) (a + 5) 0) (a + 6) 0) (a + 7) 0) (a + 8) 0) a 8 0) a 9 0) a 10 0) (a + 7) q = 0 := by
  rw [up_ne (by omega), up_ne (by omega), up_ne (by omega), newV_o (show a + 7 ≠ a + 8 by omega), newV_n]
theorem w0_8 {v : Ct} {a q : Nat} : (up (up (up (newV (newV (newV (newV (newV (newV (newV (newV v (a + 1) 0) (a + 2) 0) (a + 3) 0) (a + 4) 0) (a + 5) 0) (a + 6) 0) (a + 7) 0) (a + 8) 0) a 8 0) a 9 0) a 10 0) (a + 8) q = 0 := by
  rw [up_ne (by omega), up_ne (by omega), up_ne (by omega), newV_n]
theorem c_X0_init {T : Ty} {v : Ct} {a : Nat} (hT : T a = (5, 0, lkN)) : RunsP mX0_init 1 8 122 [vR ((a : Nat) : Int)] (a + 1) T v (a + 9) (dT T a) (fun r1 v1 => r1 = none ∧ eD v a v1) := by
  rw [← dT_eq hT]
  have h1 := iT_s (N := a + 1) (k := 0) (n := 24) (by omega) hT
  have h2 := iT_s (N := a + 2) (k := 1) (n := 24) (by omega) h1
  have h3 := iT_s (N := a + 3) (k := 2) (n := 24) (by omega) h2
  have h4 := iT_s (N := a + 4) (k := 3) (n := 10) (by omega) h3
  have h5 := iT_s (N := a + 5) (k := 4) (n := 10) (by omega) h4
  have h6 := iT_s (N := a + 6) (k := 5) (n := 10) (by omega) h5
  have h7 := iT_s (N := a + 7) (k := 6) (n := 10) (by omega) h6
  have h8 := iT_s (N := a + 8) (k := 7) (n := 10) (by omega) h7
  have g2 : (iT (iT (iT (iT (iT (iT (iT (iT T (a + 1) a 0 24) (a + 2) a 1 24) (a + 3) a 2 24) (a + 4) a 3 10) (a + 5) a 4 10) (a + 6) a 5 10) (a + 7) a 6 10) (a + 8) a 7 10) (a + 2) = (1, 24, lkN) := (iT_o (by omega) (by omega)).trans ((iT_o (by omega) (by omega)).trans ((iT_o (by omega) (by omega)).trans ((iT_o (by omega) (by omega)).trans ((iT_o (by omega) (by omega)).trans ((iT_o (by omega) (by omega)).trans (iT_n (by omega)))))))
  have g4 : (iT (iT (iT (iT (iT (iT (iT (iT T (a + 1) a 0 24) (a + 2) a 1 24) (a + 3) a 2 24) (a + 4) a 3 10) (a + 5) a 4 10) (a + 6) a 5 10) (a + 7) a 6 10) (a + 8) a 7 10) (a + 4) = (1, 10, lkN) := (iT_o (by omega) (by omega)).trans ((iT_o (by omega) (by omega)).trans ((iT_o (by omega) (by omega)).trans ((iT_o (by omega) (by omega)).trans (iT_n (by omega)))))
  have g5 : (iT (iT (iT (iT (iT (iT (iT (iT T (a + 1) a 0 24) (a + 2) a 1 24) (a + 3) a 2 24) (a + 4) a 3 10) (a + 5) a 4 10) (a + 6) a 5 10) (a + 7) a 6 10) (a + 8) a 7 10) (a + 5) = (1, 10, lkN) := (iT_o (by omega) (by omega)).trans ((iT_o (by omega) (by omega)).trans ((iT_o (by omega) (by omega)).trans (iT_n (by omega))))
  have g6 : (iT (iT (iT (iT (iT (iT (iT (iT T (a + 1) a 0 24) (a + 2) a 1 24) (a + 3) a 2 24) (a + 4) a 3 10) (a + 5) a 4 10) (a + 6) a 5 10) (a + 7) a 6 10) (a + 8) a 7 10) (a + 6) = (1, 10, lkN) := (iT_o (by omega) (by omega)).trans ((iT_o (by omega) (by omega)).trans (iT_n (by omega)))
  refine RunsP.of (by decide) (Nat.le_of_ble_eq_true rfl) fun κ C => ?_
  refine M_aload_n (pc := 0) C dX0_init_0 rfl (by omega) ?_
  refine M_objInit (pc := 1) C (by omega) (GW_t (i := 30) (by decide +kernel) rfl) oi_i oi_c (by decide) (Nat.le_of_ble_eq_true rfl) dX0_init_1 ?_
  refine M_aload_n (pc := 4) C dX0_init_4 rfl (by omega) ?_
  refine M_bipush (pc := 5) C (by decide) dX0_init_5 ?_
  refine M_newI (pc := 7) C ac_int (by decide) ⟨by decide, by decide⟩ dX0_init_7 ?_
  refine A_putF (pc := 9) C (a := a) (g := a + 1) fl_X0_9 rfl rfl ⟨rfl, rfl, _, rfl, fun a => ⟨rfl, rfl⟩⟩ (GW_t (i := 31) (by decide +kernel) rfl) rfl rfl rfl ((newT_o (by omega)).trans hT) dX0_init_9 ?_
  refine M_aload_n (pc := 12) C dX0_init_12 rfl (by omega) ?_
  refine M_bipush (pc := 13) C (by decide) dX0_init_13 ?_
  refine M_newI (pc := 15) C ac_int (by decide) ⟨by decide, by decide⟩ dX0_init_15 ?_
  refine A_putF (pc := 17) C (a := a) (g := a + 2) fl_X0_15 rfl rfl ⟨rfl, rfl, _, rfl, fun a => ⟨rfl, rfl⟩⟩ (GW_t (i := 32) (by decide +kernel) rfl) rfl rfl rfl ((newT_o (by omega)).trans h1) dX0_init_17 ?_
  refine M_aload_n (pc := 20) C dX0_init_20 rfl (by omega) ?_
  refine M_bipush (pc := 21) C (by decide) dX0_init_21 ?_
  refine M_newI (pc := 23) C ac_int (by decide) ⟨by decide, by decide⟩ dX0_init_23 ?_
  refine A_putF (pc := 25) C (a := a) (g := a + 3) fl_X0_18 rfl rfl ⟨rfl, rfl, _, rfl, fun a => ⟨rfl, rfl⟩⟩ (GW_t (i := 33) (by decide +kernel) rfl) rfl rfl rfl ((newT_o (by omega)).trans h2) dX0_init_25 ?_
  refine M_aload_n (pc := 28) C dX0_init_28 rfl (by omega) ?_
  refine M_bipush (pc := 29) C (by decide) dX0_init_29 ?_
  refine M_newI (pc := 31) C ac_int (by decide) ⟨by decide, by decide⟩ dX0_init_31 ?_
  refine A_putF (pc := 33) C (a := a) (g := a + 4) fl_X0_21 rfl rfl ⟨rfl, rfl, _, rfl, fun a => ⟨rfl, rfl⟩⟩ (GW_t (i := 34) (by decide +kernel) rfl) rfl rfl rfl ((newT_o (by omega)).trans h3) dX0_init_33 ?_
  refine M_aload_n (pc := 36) C dX0_init_36 rfl (by omega) ?_
  refine M_bipush (pc := 37) C (by decide) dX0_init_37 ?_
  refine M_newI (pc := 39) C ac_int (by decide) ⟨by decide, by decide⟩ dX0_init_39 ?_
  refine A_putF (pc := 41) C (a := a) (g := a + 5) fl_X0_24 rfl rfl ⟨rfl, rfl, _, rfl, fun a => ⟨rfl, rfl⟩⟩ (GW_t (i := 35) (by decide +kernel) rfl) rfl rfl rfl ((newT_o (by omega)).trans h4) dX0_init_41 ?_
  refine M_aload_n (pc := 44) C dX0_init_44 rfl (by omega) ?_
  refine M_bipush (pc := 45) C (by decide) dX0_init_45 ?_
  refine M_newI (pc := 47) C ac_int (by decide) ⟨by decide, by decide⟩ dX0_init_47 ?_
  refine A_putF (pc := 49) C (a := a) (g := a + 6) fl_X0_27 rfl rfl ⟨rfl, rfl, _, rfl, fun a => ⟨rfl, rfl⟩⟩ (GW_t (i := 36) (by decide +kernel) rfl) rfl rfl rfl ((newT_o (by omega)).trans h5) dX0_init_49 ?_
  refine M_aload_n (pc := 52) C dX0_init_52 rfl (by omega) ?_
  refine M_bipush (pc := 53) C (by decide) dX0_init_53 ?_
  refine M_newI (pc := 55) C ac_int (by decide) ⟨by decide, by decide⟩ dX0_init_55 ?_
  refine A_putF (pc := 57) C (a := a) (g := a + 7) fl_X0_30 rfl rfl ⟨rfl, rfl, _, rfl, fun a => ⟨rfl, rfl⟩⟩ (GW_t (i := 37) (by decide +kernel) rfl) rfl rfl rfl ((newT_o (by omega)).trans h6) dX0_init_57 ?_
  refine M_aload_n (pc := 60) C dX0_init_60 rfl (by omega) ?_
  refine M_bipush (pc := 61) C (by decide) dX0_init_61 ?_
  refine M_newI (pc := 63) C ac_int (by decide) ⟨by decide, by decide⟩ dX0_init_63 ?_
  refine A_putF (pc := 65) C (a := a) (g := a + 8) fl_X0_33 rfl rfl ⟨rfl, rfl, _, rfl, fun a => ⟨rfl, rfl⟩⟩ (GW_t (i := 38) (by decide +kernel) rfl) rfl rfl rfl ((newT_o (by omega)).trans h7) dX0_init_65 ?_
  refine M_aload_n (pc := 68) C dX0_init_68 rfl (by omega) ?_
  refine M_iconst (pc := 69) C dX0_init_69 ?_
  refine A_putI (pc := 70) C fl_X0_36 rfl (by decide) (a := a) rfl h8 (by omega) dX0_init_70 ?_
  refine M_aload_n (pc := 73) C dX0_init_73 rfl (by omega) ?_
  refine M_iconst (pc := 74) C dX0_init_74 ?_
  refine A_putI (pc := 75) C fl_X0_40 rfl (by decide) (a := a) rfl h8 (by omega) dX0_init_75 ?_
  refine M_aload_n (pc := 78) C dX0_init_78 rfl (by omega) ?_
  refine M_iconst (pc := 79) C dX0_init_79 ?_
  refine A_putI (pc := 80) C fl_X0_43 rfl (by decide) (a := a) rfl h8 (by omega) dX0_init_80 ?_
  refine M_iconst (pc := 83) C dX0_init_83 ?_
  refine M_istore_n (pc := 84) C dX0_init_84 (by decide) ?_
  refine (loop_le (P := fun i => ∀ w : Ct, (∀ x, x ≠ a + 2 → w x = (up (up (up (newV (newV (newV (newV (newV (newV (newV (newV v (a + 1) 0) (a + 2) 0) (a + 3) 0) (a + 4) 0) (a + 5) 0) (a + 6) 0) (a + 7) 0) (a + 8) 0) a 8 0) a 9 0) a 10 0) x) → (∀ q, q < i → w (a + 2) q = -1) → M κ (a + 9) (iT (iT (iT (iT (iT (iT (iT (iT T (a + 1) a 0 24) (a + 2) a 1 24) (a + 3) a 2 24) (a + 4) a 3 10) (a + 5) a 4 10) (a + 6) a 5 10) (a + 7) a 6 10) (a + 8) a 7 10) 85 [some (vR ((a : Nat) : Int)), some (vI ((i : Nat) : Int))] [] w 8 122 (QP κ (a + 9) (iT (iT (iT (iT (iT (iT (iT (iT T (a + 1) a 0 24) (a + 2) a 1 24) (a + 3) a 2 24) (a + 4) a 3 10) (a + 5) a 4 10) (a + 6) a 5 10) (a + 7) a 6 10) (a + 8) a 7 10) (fun r1 v1 => r1 = none ∧ eD v a v1) 8 122)) 24 (fun i hi ih w hw1 hw2 => ?_)) _ (fun x _ => rfl) (fun q hq => absurd hq (Nat.not_lt_zero q))
  refine M_iload_n (pc := 85) C dX0_init_85 rfl ?_
  refine M_bipush (pc := 86) C (by decide) dX0_init_86 ?_
  refine M_icmp_ge (pc := 88) C (tgt := 104) (by omega) (by omega) dX0_init_88 (by decide) (fun h_88 => ?_) (fun h_88 => ?_)
  · refine M_iconst (pc := 104) C dX0_init_104 ?_
    refine M_istore_n (pc := 105) C dX0_init_105 (by decide) ?_
    refine (loop_le (P := fun j => ∀ w2 : Ct, (∀ x, x ≠ a + 4 → x ≠ a + 5 → x ≠ a + 6 → w2 x = w x) → (∀ q, q < j → w2 (a + 4) q = -1 ∧ w2 (a + 5) q = -1 ∧ w2 (a + 6) q = -1) → M κ (a + 9) (iT (iT (iT (iT (iT (iT (iT (iT T (a + 1) a 0 24) (a + 2) a 1 24) (a + 3) a 2 24) (a + 4) a 3 10) (a + 5) a 4 10) (a + 6) a 5 10) (a + 7) a 6 10) (a + 8) a 7 10) 106 [some (vR ((a : Nat) : Int)), some (vI ((j : Nat) : Int))] [] w2 8 122 (QP κ (a + 9) (iT (iT (iT (iT (iT (iT (iT (iT T (a + 1) a 0 24) (a + 2) a 1 24) (a + 3) a 2 24) (a + 4) a 3 10) (a + 5) a 4 10) (a + 6) a 5 10) (a + 7) a 6 10) (a + 8) a 7 10) (fun r1 v1 => r1 = none ∧ eD v a v1) 8 122)) 10 (fun j hj ihj w2 hq1 hq2 => ?_)) w (fun x _ _ _ => rfl) (fun q hq => absurd hq (Nat.not_lt_zero q))
    refine M_iload_n (pc := 106) C dX0_init_106 rfl ?_
    refine M_bipush (pc := 107) C (by decide) dX0_init_107 ?_
    refine M_icmp_ge (pc := 109) C (tgt := 139) (by omega) (by omega) dX0_init_109 (by decide) (fun h_109 => ?_) (fun h_109 => ?_)
    · refine M_vretP (pc := 139) C rfl dX0_init_139 ⟨rfl, fun x hx => ?_, ?_, fun q hq => ?_, fun q hq => ?_⟩ rfl
      · rw [hq1 x (by omega) (by omega) (by omega), hw1 x (by omega)]
        exact w0_o hx
      · rw [hq1 a (by omega) (by omega) (by omega), hw1 a (by omega)]
        exact w0_a
      · rw [hq1 (a + 1) (by omega) (by omega) (by omega), hw1 (a + 1) (by omega), hq1 (a + 2) (by omega) (by omega) (by omega), hq1 (a + 3) (by omega) (by omega) (by omega), hw1 (a + 3) (by omega)]
        exact ⟨w0_1, hw2 q (by omega), w0_3⟩
      · obtain ⟨z1, z2, z3⟩ := hq2 q (by omega)
        rw [hq1 (a + 7) (by omega) (by omega) (by omega), hw1 (a + 7) (by omega), hq1 (a + 8) (by omega) (by omega) (by omega), hw1 (a + 8) (by omega)]
        exact ⟨z1, z2, z3, w0_7, w0_8⟩
    · refine M_aload_n (pc := 112) C dX0_init_112 rfl (by omega) ?_
      refine A_getR (pc := 113) C fl_X0_21 rfl (a := a) (j := ((a + 4 : Nat) : Int)) rfl h8 rfl dX0_init_113 ?_
      refine M_iload_n (pc := 116) C dX0_init_116 rfl ?_
      refine M_iconst (pc := 117) C dX0_init_117 ?_
      refine A_iast (pc := 118) C (a := a + 4) (q := j) rfl g4 (by decide) rfl (by omega) (by decide) dX0_init_118 ?_
      refine M_aload_n (pc := 119) C dX0_init_119 rfl (by omega) ?_
      refine A_getR (pc := 120) C fl_X0_24 rfl (a := a) (j := ((a + 5 : Nat) : Int)) rfl h8 rfl dX0_init_120 ?_
      refine M_iload_n (pc := 123) C dX0_init_123 rfl ?_
      refine M_iconst (pc := 124) C dX0_init_124 ?_
      refine A_iast (pc := 125) C (a := a + 5) (q := j) rfl g5 (by decide) rfl (by omega) (by decide) dX0_init_125 ?_
      refine M_aload_n (pc := 126) C dX0_init_126 rfl (by omega) ?_
      refine A_getR (pc := 127) C fl_X0_27 rfl (a := a) (j := ((a + 6 : Nat) : Int)) rfl h8 rfl dX0_init_127 ?_
      refine M_iload_n (pc := 130) C dX0_init_130 rfl ?_
      refine M_iconst (pc := 131) C dX0_init_131 ?_
      refine A_iast (pc := 132) C (a := a + 6) (q := j) rfl g6 (by decide) rfl (by omega) (by decide) dX0_init_132 ?_
      refine M_iinc (pc := 133) C dX0_init_133 rfl (by decide) ?_
      refine M_goto (pc := 136) C (tgt := 106) dX0_init_136 (by decide) ?_
      refine ihj (by omega) _ (fun x x1 x2 x3 => ?_) (fun q hq => ?_)
      · funext z
        rw [up_ne x3, up_ne x2, up_ne x1, hq1 x x1 x2 x3]
      · by_cases e : q = j
        · subst e
          exact ⟨by rw [up_ne (by omega), up_ne (by omega), up_eq], by rw [up_ne (by omega), up_eq], up_eq⟩
        · obtain ⟨z1, z2, z3⟩ := hq2 q (by omega)
          exact ⟨by rw [up_ne (by omega), up_ne (by omega), up_n2 e, z1], by rw [up_ne (by omega), up_n2 e, up_ne (by omega), z2], by rw [up_n2 e, up_ne (by omega), up_ne (by omega), z3]⟩
  · refine M_aload_n (pc := 91) C dX0_init_91 rfl (by omega) ?_
    refine A_getR (pc := 92) C fl_X0_15 rfl (a := a) (j := ((a + 2 : Nat) : Int)) rfl h8 rfl dX0_init_92 ?_
    refine M_iload_n (pc := 95) C dX0_init_95 rfl ?_
    refine M_iconst (pc := 96) C dX0_init_96 ?_
    refine A_iast (pc := 97) C (a := a + 2) (q := i) rfl g2 (by decide) rfl (by omega) (by decide) dX0_init_97 ?_
    refine M_iinc (pc := 98) C dX0_init_98 rfl (by decide) ?_
    refine M_goto (pc := 101) C (tgt := 85) dX0_init_101 (by decide) ?_
    refine ih (by omega) _ (fun x x1 => ?_) (fun q hq => ?_)
    · funext z
      rw [up_ne x1, hw1 x x1]
    · by_cases e : q = i
      · subst e
        exact up_eq
      · rw [up_n2 e]
        exact hw2 q (by omega)
