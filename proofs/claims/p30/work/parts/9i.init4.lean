theorem M.toN {κ : KX} {N N2 : Nat} {T T2 : Ty} {pc : Nat} {L : List (Option MV)} {st : List MV} {v : Ct} {k n k2 n2 : Nat} {Q : State → Prop} (kk : M κ N2 T2 pc L st v k2 n2 Q) (e1 : N = N2) (e2 : T = T2) (e3 : k = k2) (e4 : n = n2) : M κ N T pc L st v k n Q := by
  subst e1 e2 e3 e4
  exact kk
theorem dT_o {T : Ty} {a i : Nat} (h : i < a ∨ a + 9 ≤ i) : dT T a i = T i := by
  unfold dT
  rw [if_neg (by omega), if_neg (by omega), if_neg (by omega)]
theorem dT_a {T : Ty} {a : Nat} : dT T a a = (5, 0, lkD a) := if_pos rfl
theorem dT_new {T : Ty} {a k n : Nat} : dT (newT T a k n) a = dT T a := by
  funext i
  unfold dT
  by_cases h : i = a
  · rw [if_pos h, if_pos h]
  · rw [if_neg h, if_neg h, newT_o h]
def hiT (T : Ty) (a : Nat) : Nat → Ty
  | 0 => upL (newT T (a + 1) 4 6) a 0 ((a + 1 : Nat) : Int)
  | i + 1 => dT (hiT T a i) (a + 2 + 9 * i)
theorem hiT_o {T : Ty} {a x : Nat} (h : x < a) : ∀ i, hiT T a i x = T x := by
  intro i
  induction i with
  | zero => exact (upL_o (by omega)).trans (newT_o (by omega))
  | succ i ih => exact (dT_o (Or.inl (by omega))).trans ih
theorem hiT_a {T : Ty} {a : Nat} (hT : T a = (7, 0, lkN)) : ∀ i, hiT T a i a = (7, 0, fun q => if q = 0 then ((a + 1 : Nat) : Int) else lkN q) := by
  intro i
  induction i with
  | zero => exact upL_s ((newT_o (by omega)).trans hT)
  | succ i ih => exact (dT_o (Or.inl (by omega))).trans ih
theorem hiT_1 {T : Ty} {a : Nat} : ∀ i, hiT T a i (a + 1) = (4, 6, lkN) := by
  intro i
  induction i with
  | zero => exact (upL_o (by omega)).trans newT_n
  | succ i ih => exact (dT_o (Or.inl (by omega))).trans ih
theorem hdv_0 : ∀ j, j < 11 → (if fldI 0 j = true then parseFieldDescriptor (TX0 j).2.2.1 = some .int else ∃ ty, parseFieldDescriptor (TX0 j).2.2.1 = some ty ∧ defaultValue ty = .null) := fun j hj => by
  rcases (show j = 0 ∨ j = 1 ∨ j = 2 ∨ j = 3 ∨ j = 4 ∨ j = 5 ∨ j = 6 ∨ j = 7 ∨ j = 8 ∨ j = 9 ∨ j = 10 by omega) with rfl | rfl | rfl | rfl | rfl | rfl | rfl | rfl | rfl | rfl | rfl
  all_goals first | (rw [if_neg (by decide)]; exact ⟨_, rfl, rfl⟩) | (rw [if_pos (by decide)]; rfl)
theorem c_X2_init {T : Ty} {v : Ct} {a : Nat} (hT : T a = (7, 0, lkN)) (ha : a < 60000) : RunsP mX2_init 2 55 804 [vR ((a : Nat) : Int)] (a + 1) T v (a + 56) (hiT T a 6) (fun r1 v1 => r1 = none ∧ (∀ x, x < a → v1 x = v x) ∧ v1 a 1 = 0 ∧ ∀ q, q < 6 → v1 (a + 1) q = ((a + 2 + 9 * q : Nat) : Int)) := by
  refine RunsP.of (by decide) (Nat.le_of_ble_eq_true rfl) fun κ C => ?_
  refine M_aload_n (pc := 0) C dX2_init_0 rfl (by omega) ?_
  refine M_objInit (pc := 1) C (by omega) (GW_t (i := 75) (by decide +kernel) rfl) oi_i oi_c (by decide) (Nat.le_of_ble_eq_true rfl) dX2_init_1 ?_
  refine M_aload_n (pc := 4) C dX2_init_4 rfl (by omega) ?_
  refine M_bipush (pc := 5) C (by decide) dX2_init_5 ?_
  refine M_newD (pc := 7) C (GW_t (i := 76) (by decide +kernel) rfl) (by decide) ⟨by decide, by decide⟩ dX2_init_7 ?_
  refine A_putF (pc := 10) C (a := a) (g := a + 1) fl_X2_11 rfl rfl ⟨rfl, rfl, _, rfl, fun a => ⟨rfl, rfl⟩⟩ (GW_t (i := 79) (by decide +kernel) rfl) rfl rfl rfl ((newT_o (by omega)).trans hT) dX2_init_10 ?_
  refine M_aload_n (pc := 13) C dX2_init_13 rfl (by omega) ?_
  refine M_iconst (pc := 14) C dX2_init_14 ?_
  refine A_putI (pc := 15) C fl_X2_17 rfl (by decide) (a := a) rfl (hiT_a hT 0) (by omega) dX2_init_15 ?_
  refine M_iconst (pc := 18) C dX2_init_18 ?_
  refine M_istore_n (pc := 19) C dX2_init_19 (by decide) ?_
  refine (loop_le (P := fun i => ∀ w : Ct, (∀ x, x < a → w x = v x) → w a 1 = 0 → (∀ q, q < i → w (a + 1) q = ((a + 2 + 9 * q : Nat) : Int)) → M κ (a + 2 + 9 * i) (hiT T a i) 20 [some (vR ((a : Nat) : Int)), some (vI ((i : Nat) : Int))] [] w (1 + 9 * i) (6 + 133 * i) (QP κ (a + 56) (hiT T a 6) (fun r1 v1 => r1 = none ∧ (∀ x, x < a → v1 x = v x) ∧ v1 a 1 = 0 ∧ ∀ q, q < 6 → v1 (a + 1) q = ((a + 2 + 9 * q : Nat) : Int)) 55 804)) 6 (fun i hi ih w hw1 hw2 hw3 => ?_)) _ (fun x hx => ?_) up_eq (fun q hq => absurd hq (Nat.not_lt_zero q))
  · refine M_iload_n (pc := 20) C dX2_init_20 rfl ?_
    refine M_bipush (pc := 21) C (by decide) dX2_init_21 ?_
    refine M_icmp_ge (pc := 23) C (tgt := 45) (by omega) (by omega) dX2_init_23 (by decide) (fun h_23 => ?_) (fun h_23 => ?_)
    · have hi6 : i = 6 := by omega
      subst hi6
      exact M_vretP (pc := 45) C rfl dX2_init_45 ⟨rfl, hw1, hw2, hw3⟩ rfl
    · refine M_aload_n (pc := 26) C dX2_init_26 rfl (by omega) ?_
      refine A_getR (pc := 27) C fl_X2_11 rfl (a := a) (j := ((a + 1 : Nat) : Int)) rfl (hiT_a hT i) rfl dX2_init_27 ?_
      refine M_iload_n (pc := 30) C dX2_init_30 rfl ?_
      refine M_new (pc := 31) C cf_0 (GW_t (i := 76) (by decide +kernel) rfl) (GW_t (i := 26) (by decide +kernel) rfl) (GW_t (i := 2) (by decide +kernel) rfl) ⟨by omega, by omega⟩ hdv_0 dX2_init_31 ?_
      refine M_dup (pc := 34) C rfl dX2_init_34 ?_
      refine M_callI (pc := 35) C (c_X0_init (a := a + 2 + 9 * i) newT_n) yw_X0_init lk_X2_21 (by omega) rfl dX2_init_35 rfl (Nat.le_of_ble_eq_true rfl) (by decide) ⟨by omega, by omega⟩ (fun r v2 h => h.1) (fun v2 p2 => ?_)
      obtain ⟨-, e1, -⟩ := p2
      refine A_aast (pc := 38) C (a := a + 1) (q := i) (g := a + 2 + 9 * i) rfl ((dT_o (Or.inl (by omega))).trans ((newT_o (by omega)).trans (hiT_1 i))) (by decide) rfl (by omega) rfl dT_a (by omega) dX2_init_38 ?_
      refine M_iinc (pc := 39) C dX2_init_39 rfl (by decide) ?_
      refine M_goto (pc := 42) C (tgt := 20) dX2_init_42 (by decide) ?_
      refine M.toN (ih (by omega) _ (fun x hx => ?_) ?_ (fun q hq => ?_)) (by omega) dT_new (by omega) (by omega)
      · funext z
        rw [up_ne (by omega), e1 x (by omega), newV_o (by omega), hw1 x hx]
      · rw [up_ne (by omega), e1 a (by omega), newV_o (by omega), hw2]
      · by_cases e : q = i
        · subst e
          exact up_eq
        · rw [up_n2 e, e1 (a + 1) (by omega), newV_o (by omega)]
          exact hw3 q (by omega)
  · funext z
    rw [up_ne (by omega), newV_o (by omega)]
