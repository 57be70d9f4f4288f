/-! the looks that change what the sides lay aside; the orders without handlers -/
theorem LI.lk {N N1 : Nat} {T : Ty} {v v3 : Ct} {c c2 : Int} (h : LI N T v c) (hN : N ≤ N1) (hc : c ≤ c2) (o : ∀ a, a ≤ 68 ∨ (85 ≤ a ∧ a ≤ 87) ∨ a = 89 ∨ a = 90 ∨ 96 ≤ a → v3 a = v a) (o84 : ∀ j, j ≠ 8 → j ≠ 13 → v3 84 j = v 84 j) (o91 : HOK (v3 91)) : LI N1 T v3 c2 := by
  obtain ⟨s, hs1, hs2⟩ := h.2.2.2.1
  refine h.step hN hc ?_ ⟨s, ?_, ?_⟩ (o _ (by decide)) (o _ (by decide)) (o _ (by decide)) (fun a h1 _ => o a (by omega)) (by rw [o 67 (by decide)]) (o84 7 (by decide) (by decide)) (o _ (by decide)) (o _ (by decide)) o91
  · rw [o 85 (by decide)]
    exact (h.2.2.1.same (fun k hk => o _ (by omega)) (fun _ _ => rfl)).mono hc
  · rw [o 86 (by decide)]
    exact (hs1.same (fun a h1 h2 => o a (by omega))).mono hc
  · rw [o84 5 (by decide) (by decide)]
    exact hs2
theorem sa_self3 (v : Ct) : v = sa (sa (sa v 84 (v 84)) 88 (v 88)) 85 (v 85) := by
  rw [← sa_self v 84, ← sa_self v 88, ← sa_self v 85]
theorem sa_self5 (v : Ct) : v = sa (sa (sa (sa (sa v 84 (v 84)) 94 (v 94)) 93 (v 93)) 88 (v 88)) 85 (v 85) := by
  rw [← sa_self v 84, ← sa_self v 94, ← sa_self v 93, ← sa_self v 88, ← sa_self v 85]
theorem sa_self6b (v : Ct) : v = sa (sa (sa (sa (sa (sa v 84 (v 84)) 92 (v 92)) 94 (v 94)) 93 (v 93)) 88 (v 88)) 85 (v 85) := by
  rw [← sa_self v 84, ← sa_self v 92, ← sa_self v 94, ← sa_self v 93, ← sa_self v 88, ← sa_self v 85]
theorem p_ifGrown {N : Nat} {T : Ty} {v : Ct} {c x y : Int} (h : LI N T v c) (hx : i32 x) (hy : i32 y) : ∃ code d, d ≤ 20 ∧ RunsE mL_ifGrown hL_ifGrown d 1 6 [vR 0, vI x, vI y, vR 95] N T v (AG N T mX8_ifGrown [vI x, vI y] code (c + 1)) := by
  have hT := h.1
  have hV := h.2.2.1
  have hH : DR (v 2) (v 3) (v 4) (v 5) (v 6) (v 7) (v 8) (v 9) (v 85) := hV.1
  cases hex : exF (v 5) x with
  | false =>
    refine ⟨1, 8, by decide, (x_ifGrown_1 hT (t_X7_ifGrown_f hT hx hex)).imp (fun r1 N1 T1 v1 q => ?_)⟩
    obtain ⟨q1, q2, rfl, rfl⟩ := q
    exact h.bad q2 (by omega) (by decide) (by decide) q1 (c_X8_ifGrown_b1 (G := v1 84) (v := v1) hT hx (by rw [h.isF x]; exact hex))
  | true =>
    have hq := hex
    rw [hH.exf x] at hq
    obtain ⟨f0, f9, hfi⟩ := of_decide_eq_true hq
    obtain ⟨f, rfl⟩ : ∃ f : Nat, x = (f : Int) := ⟨x.toNat, by omega⟩
    rw [Int.toNat_natCast] at hfi
    by_cases hb : 1 ≤ y ∧ y ≤ 200
    · obtain ⟨a, rfl⟩ : ∃ a : Nat, y = (a : Int) := ⟨y.toNat, by omega⟩
      have hR := c_X7_ifGrown (N := N) hT hV (show f < 10 by omega) hfi (show 1 ≤ a ∧ a ≤ 200 by omega)
      refine ⟨0, 5, by decide, (w_ifGrown hT hR (fun r1 v1 q => ⟨_, q.1⟩)).imp (fun r1 N1 T1 v1 q => ?_)⟩
      obtain ⟨q1, rfl, rfl, z, v2, ⟨q4, q5⟩, q9⟩ := q
      have e : z = opV (gwO (v 85) f a) := by cases q4; rfl
      have g1 : ∀ b, b ≠ 95 → v1 b = v b := fun b k => by rw [q9, sa_ne k, q5]
      refine ⟨⟨q1, by decide⟩, hT, Nat.le_refl _, 10, by decide, ?_⟩
      have hRf := c_X8_ifGrown (N := N1) (T := T1) (G := v1 84) (A := v1 88) (R := v1 85) (f := f) (n := a) (v := v1) hT (by rw [g1 85 (by decide)]; exact hV.1.RI) (show f < 10 by omega) (by rw [g1 85 (by decide)]; exact hfi) (by omega) (by omega)
      rw [← sa_self3 v1] at hRf
      refine RunsP.imp hRf (fun r3 v3 w => ⟨_, w.1, ?_⟩)
      have w2 := w.2
      have o : ∀ b, b ≠ 84 → b ≠ 88 → b ≠ 85 → v3 b = v1 b := fun b k1 k2 k3 => by rw [w2, sa_ne k3, sa_ne k2, sa_ne k1]
      refine ⟨by rw [w2, sa_ne (by decide), sa_ne (by decide), sa_eq, rs_eq], fun _ => by rw [o 95 (by decide) (by decide) (by decide), q9, sa_eq, rs_eq, e, sa_ne (by decide), q5], ?_⟩
      refine h.lk (Nat.le_refl _) (show c ≤ c + 1 by omega) (fun b hb9 => ?_) (fun j j1 j2 => ?_) ?_
      · by_cases h85 : b = 85
        · rw [h85, w2, sa_eq, g1 85 (by decide)]
        · exact (o b (by omega) (by omega) h85).trans (g1 b (by omega))
      · rw [w2, sa_ne (by decide), sa_ne (by decide), sa_eq, rs_ne j2, g1 84 (by decide)]
      · rw [o 91 (by decide) (by decide) (by decide), g1 91 (by decide)]
        exact h.2.2.2.2.2.2.2.2
    · refine ⟨2, 8, by decide, (x_ifGrown_2 hT (t_X7_ifGrown_a hT (show f < 10 by omega) (hH.zf (by omega) hfi) hy hb)).imp (fun r1 N1 T1 v1 q => ?_)⟩
      obtain ⟨q1, q2, rfl, rfl⟩ := q
      exact h.bad q2 (by omega) (by decide) (by decide) q1 (c_X8_ifGrown_b2 (G := v1 84) (v := v1) hT (show f < 10 by omega) hfi hy (inB_f (by omega)))
theorem p_fewest {N : Nat} {T : Ty} {v : Ct} {c x : Int} (h : LI N T v c) (hx : i32 x) : ∃ code d, d ≤ 20 ∧ RunsE mL_fewest hL_fewest d 1 6 [vR 0, vI x, vR 95] N T v (AG N T mX8_fewest [vI x] code (c + 1)) := by
  have hT := h.1
  have hV := h.2.2.1
  by_cases hb : 0 ≤ x ∧ x ≤ 1
  · obtain ⟨a, rfl⟩ : ∃ a : Nat, x = (a : Int) := ⟨x.toNat, by omega⟩
    have hR := c_X7_fewest (N := N) hT hV (show a < 2 by omega)
    refine ⟨0, 13, by decide, (w_fewest hT hR (fun r1 v1 q => ⟨_, q.1⟩)).imp (fun r1 N1 T1 v1 q => ?_)⟩
    obtain ⟨q1, rfl, rfl, z, v2, ⟨q4, q5⟩, q9⟩ := q
    have e : z = fbG (v 85) := by cases q4; rfl
    have g1 : ∀ b, b ≠ 95 → b < 78 ∨ 84 ≤ b → v1 b = v b := fun b k k2 => by rw [q9, sa_ne k, q5 b k2]
    refine ⟨⟨q1, by decide⟩, hT, Nat.le_refl _, 5, by decide, ?_⟩
    have hRf := c_X8_fewest (N := N1) (T := T1) (G := v1 84) (B := v1 92) (F := v1 94) (O := v1 93) (A := v1 88) (R := v1 85) (w := a) (v := v1) hT (by rw [g1 85 (by decide) (by decide)]; exact hV.1.RI) (by omega)
    rw [← sa_self6b v1] at hRf
    refine RunsP.imp hRf (fun r3 v3 w => ?_)
    obtain ⟨B2, w1, w2⟩ := w
    have o : ∀ b, b ≠ 84 → b ≠ 92 → b ≠ 94 → b ≠ 93 → b ≠ 88 → b ≠ 85 → v3 b = v1 b := fun b k1 k2 k3 k4 k5 k6 => by rw [w2, sa_ne k6, sa_ne k5, sa_ne k4, sa_ne k3, sa_ne k2, sa_ne k1]
    refine ⟨_, w1, by rw [w2, sa_ne (by decide), sa_ne (by decide), sa_ne (by decide), sa_ne (by decide), sa_ne (by decide), sa_eq, rs_eq], fun _ => by rw [o 95 (by decide) (by decide) (by decide) (by decide) (by decide) (by decide), q9, sa_eq, rs_eq, e, sa_ne (by decide), q5 85 (by decide)], ?_⟩
    refine h.lk (Nat.le_refl _) (show c ≤ c + 1 by omega) (fun b hb9 => ?_) (fun j j1 j2 => ?_) ?_
    · by_cases h85 : b = 85
      · rw [h85, w2, sa_eq, g1 85 (by decide) (by decide)]
      · exact (o b (by omega) (by omega) (by omega) (by omega) (by omega) h85).trans (g1 b (by omega) (by omega))
    · rw [w2, sa_ne (by decide), sa_ne (by decide), sa_ne (by decide), sa_ne (by decide), sa_ne (by decide), sa_eq, rs_ne j2, g1 84 (by decide) (by decide)]
    · rw [o 91 (by decide) (by decide) (by decide) (by decide) (by decide) (by decide), g1 91 (by decide) (by decide)]
      exact h.2.2.2.2.2.2.2.2
  · refine ⟨1, 8, by decide, (x_fewest_1 hT (t_X7_fewest_a hT hx hb)).imp (fun r1 N1 T1 v1 q => ?_)⟩
    obtain ⟨q1, q2, rfl, rfl⟩ := q
    exact h.bad q2 (by omega) (by decide) (by decide) q1 (c_X8_fewest_b (G := v1 84) (v := v1) hT hx (inB_f (by omega)))
/-- both sides of an order without handlers -/
def BO (S : MV → Prop) (Y7 Y8 : MD) (N : Nat) (T : Ty) (v : Ct) (c2 : Int) : Prop := ∃ d, d ≤ 20 ∧ RunsP Y7 d 0 0 [vR 0] N T v N T (fun r1 v1 => ∃ z, S z ∧ r1 = some z ∧ ∃ D, D ≤ 20 ∧ RunsP Y8 D 0 0 [vR 84] N T v1 N T (fun r2 v2 => r2 = some z ∧ LI N T v2 c2))
def isI (z : MV) : Prop := ∃ x, z = vI x
def isJ (z : MV) : Prop := ∃ x, z = vJ x
def isD (z : MV) : Prop := ∃ x, z = vD x
theorem rs_self (R : Nat → Int) (j : Nat) : rs R j (R j) = R := by
  funext q
  by_cases h : q = j
  · rw [h, rs_eq]
  · rw [rs_ne h]
theorem q_pack {N : Nat} {T : Ty} {v : Ct} {c : Int} (h : LI N T v c) (hc : c < 900000) : BO isI mX7_pack mX8_pack N T v (c + 1) := by
  have hT := h.1
  have hV := h.2.2.1
  obtain ⟨s, hs, hs2⟩ := h.2.2.2.1
  refine ⟨5, by decide, RunsP.imp (c_X7_pack (N := N) hT hV hs (by omega)) (fun r1 v1 q => ?_)⟩
  obtain ⟨q4, q5, q6, q7⟩ := q
  have g : ∀ b, 84 ≤ b → v1 b = v b := fun b h1 => q7 b (Or.inr h1)
  refine ⟨_, ⟨_, rfl⟩, q4, 6, by decide, ?_⟩
  have hRf := c_X8_pack (N := N) (T := T) (P := v 86) (G := v 84) (F := v 94) (O := v 93) (A := v 88) (R := v 85) (s := s) (v := v1) hT hs2 hs.2.1 hV.1.RI
  have e6 := sa_self6 v1
  rw [g 86 (by decide), g 84 (by decide), g 94 (by decide), g 93 (by decide), g 88 (by decide), g 85 (by decide)] at e6
  rw [← e6] at hRf
  refine RunsP.imp hRf (fun r3 v3 w => ?_)
  obtain ⟨F2, w1, w2⟩ := w
  have e0 : sa v1 95 (rs (v1 95) 0 (v1 95 0)) = v1 := by rw [rs_self, ← sa_self]
  exact ⟨w1, (LI.both (z := v1 95 0) h hs hs2 (show c ≤ c + 1 by omega) q5 q6 q7 (by rw [e0]; exact w2)).2.2⟩
theorem q_clearBuffer {N : Nat} {T : Ty} {v : Ct} {c : Int} (h : LI N T v c) : BO isI mX7_clearBuffer mX8_clearBuffer N T v (c + 1) := by
  have hT := h.1
  have hV := h.2.2.1
  obtain ⟨s, hs1, hs2⟩ := h.2.2.2.1
  obtain ⟨n, e1, e2, e3, e4⟩ : TX v := h.2.2.2.2.2.2.2.1
  have hR := c_X7_clearBuffer (N := N) (T := T) (X := v 67) (v := v) hT
  rw [← sa_self v 67] at hR
  refine ⟨1, by decide, RunsP.imp hR (fun r1 v1 q => ?_)⟩
  obtain ⟨q1, q2⟩ := q
  refine ⟨_, ⟨_, rfl⟩, q1, 0, by decide, ?_⟩
  have g1 : ∀ a, a ≠ 67 → v1 a = v a := fun a k => by rw [q2, sa_ne k]
  have hRf := c_X8_clearBuffer (N := N) (T := T) (G := v1 84) (v := v1) hT
  rw [← sa_self v1 84, g1 84 (by decide)] at hRf
  refine RunsP.imp hRf (fun r3 v3 w => ?_)
  obtain ⟨w1, w2⟩ := w
  have o : ∀ a, a ≠ 67 → a ≠ 84 → v3 a = v a := fun a k1 k2 => by rw [w2, sa_ne k2, g1 a k1]
  have e84 : v3 84 = rs (rs (v 84) 13 0) 7 0 := by rw [w2, sa_eq]
  refine ⟨by rw [w1, e1, e2], ?_⟩
  refine h.stepT (Nat.le_refl _) (show c ≤ c + 1 by omega) ?_ ⟨s, ?_, ?_⟩ (o _ (by decide) (by decide)) (o _ (by decide) (by decide)) (o _ (by decide) (by decide)) (fun a h1 _ => o a (by omega) (by omega)) ⟨0, ?_, ?_, by omega, ?_⟩ ?_
  · rw [o 85 (by decide) (by decide)]
    exact (hV.same (fun k hk => o _ (by omega) (by omega)) (fun _ _ => rfl)).mono (by omega)
  · rw [o 86 (by decide) (by decide)]
    exact (hs1.same (fun a h1 h2 => o a (by omega) (by omega))).mono (by omega)
  · rw [e84, rs_ne (by decide), rs_ne (by decide)]
    exact hs2
  · rw [w2, sa_ne (by decide), q2, sa_eq, rs_eq]
    rfl
  · rw [e84, rs_eq]
    rfl
  · rw [o 68 (by decide) (by decide), o 90 (by decide) (by decide)]
    exact e4
  · rw [o 91 (by decide) (by decide)]
    exact h.2.2.2.2.2.2.2.2
theorem q_firstError {N : Nat} {T : Ty} {v : Ct} {c : Int} (h : LI N T v c) : BO isI mX7_firstError mX8_firstError N T v (c + 1) := by
  have hT := h.1
  obtain ⟨n, e1, e2, e3, e4⟩ : TX v := h.2.2.2.2.2.2.2.1
  have hO : HOK (v 91) := h.2.2.2.2.2.2.2.2
  have hR := c_X7_firstError (N := N) (D := v 69) (v := v) hT e1 e3
  rw [← sa_self v 69] at hR
  refine ⟨4, by decide, RunsP.imp hR (fun r1 v1 q => ?_)⟩
  obtain ⟨q1, q2⟩ := q
  refine ⟨_, ⟨_, rfl⟩, q1, 7, by decide, ?_⟩
  have g1 : ∀ a, a ≠ 69 → v1 a = v a := fun a k => by rw [q2, sa_ne k]
  have hRf := c_X8_firstError (N := N) (T := T) (H := v1 91) (G := v1 84) (n := n) (v := v1) hT (by rw [g1 84 (by decide)]; exact e2) e3
  rw [← sa_self2 v1 91 84, g1 91 (by decide), g1 90 (by decide), ← e4, g1 84 (by decide)] at hRf
  refine RunsP.imp hRf (fun r3 v3 w => ?_)
  obtain ⟨w1, w2⟩ := w
  obtain ⟨t1, t2⟩ := wl_rd (U := v 68) (H := v 91) e3 (v 69)
  refine ⟨?_, h.lk (Nat.le_refl _) (show c ≤ c + 1 by omega) (fun b hb9 => ?_) (fun j j1 j2 => ?_) ?_⟩
  · rw [w1]
    cases hwl : (wlI (v 68) n (v 91) 60).1 with
    | true => rw [if_pos rfl, (t1 hwl).1]
    | false => rw [if_neg Bool.false_ne_true, (t2 hwl).1]
  · rw [w2, sa_ne (by omega), sa_ne (by omega), g1 b (by omega)]
  · rw [w2, sa_eq, rs_ne j1, rs_ne j2]
  · rw [w2, sa_ne (by decide), sa_eq]
    exact wl_ok hO 60
theorem q_greatest {N : Nat} {T : Ty} {v : Ct} {c : Int} (h : LI N T v c) : BO isI mX7_greatest mX8_greatest N T v (c + 1) := by
  have hT := h.1
  have hV := h.2.2.1
  refine ⟨4, by decide, RunsP.imp (c_X7_greatestR (N := N) hT hV) (fun r1 v1 q => ?_)⟩
  obtain ⟨q1, rfl⟩ := q
  refine ⟨_, ⟨_, rfl⟩, q1, 8, by decide, ?_⟩
  have hRf := c_X8_greatest (N := N) (T := T) (G := v1 84) (v := v1) hT hV.1.RI
  rw [← sa_self v1 84] at hRf
  refine RunsP.imp hRf (fun r3 v3 w => ⟨w.1, ?_⟩)
  rw [w.2]
  exact h.no (Nat.le_refl _) (by omega)
theorem q_weakest {N : Nat} {T : Ty} {v : Ct} {c : Int} (h : LI N T v c) : BO isI mX7_weakest mX8_weakest N T v (c + 1) := by
  have hT := h.1
  have hV := h.2.2.1
  refine ⟨3, by decide, RunsP.imp (c_X7_weakestR (N := N) hT hV) (fun r1 v1 q => ?_)⟩
  obtain ⟨q1, rfl⟩ := q
  refine ⟨_, ⟨_, rfl⟩, q1, 5, by decide, ?_⟩
  have hRf := c_X8_weakest (N := N) (T := T) (G := v1 84) (v := v1) hT hV.1.RI
  rw [← sa_self v1 84] at hRf
  refine RunsP.imp hRf (fun r3 v3 w => ⟨w.1, ?_⟩)
  rw [w.2]
  exact h.no (Nat.le_refl _) (by omega)
theorem q_usedShare {N : Nat} {T : Ty} {v : Ct} {c : Int} (h : LI N T v c) : BO isD mX7_usedShare mX8_usedShare N T v (c + 1) := by
  have hT := h.1
  have hV := h.2.2.1
  obtain ⟨s, hs1, hs2⟩ := h.2.2.2.1
  refine ⟨5, by decide, RunsP.imp (c_X7_usedShare (N := N) hT hV hs1.1) (fun r1 v1 q => ?_)⟩
  obtain ⟨q1, rfl⟩ := q
  refine ⟨_, ⟨_, rfl⟩, q1, 6, by decide, ?_⟩
  have hH : DR (v1 2) (v1 3) (v1 4) (v1 5) (v1 6) (v1 7) (v1 8) (v1 9) (v1 85) := hV.1
  have hRf := c_X8_usedShare (N := N) (T := T) (G := v1 84) (v := v1) hT hV.1.RI hH.us.1
  rw [← sa_self v1 84] at hRf
  refine RunsP.imp hRf (fun r3 v3 w => ⟨w.1, ?_⟩)
  rw [w.2]
  exact h.no (Nat.le_refl _) (by omega)
theorem q_ifPacked {N : Nat} {T : Ty} {v : Ct} {c : Int} (h : LI N T v c) : BO isI mX7_ifPacked mX8_ifPacked N T v (c + 1) := by
  have hT := h.1
  have hV := h.2.2.1
  refine ⟨5, by decide, RunsP.imp (c_X7_ifPacked (N := N) hT hV) (fun r1 v1 q => ?_)⟩
  obtain ⟨q1, q5⟩ := q
  refine ⟨_, ⟨_, rfl⟩, q1, 7, by decide, ?_⟩
  have hRf := c_X8_ifPacked (N := N) (T := T) (G := v1 84) (F := v1 94) (O := v1 93) (A := v1 88) (R := v1 85) (v := v1) hT (by rw [q5 85 (by decide)]; exact hV.1.RI)
  rw [← sa_self5 v1] at hRf
  refine RunsP.imp hRf (fun r3 v3 w => ?_)
  obtain ⟨F2, w1, w2⟩ := w
  have o : ∀ b, b ≠ 84 → b ≠ 94 → b ≠ 93 → b ≠ 88 → b ≠ 85 → v3 b = v1 b := fun b k1 k2 k3 k4 k5 => by rw [w2, sa_ne k5, sa_ne k4, sa_ne k3, sa_ne k2, sa_ne k1]
  refine ⟨by rw [w1, q5 85 (by decide)], h.lk (Nat.le_refl _) (show c ≤ c + 1 by omega) (fun b hb9 => ?_) (fun j j1 j2 => ?_) ?_⟩
  · by_cases h85 : b = 85
    · rw [h85, w2, sa_eq, q5 85 (by decide)]
    · exact (o b (by omega) (by omega) (by omega) (by omega) h85).trans (q5 b (by omega))
  · rw [w2, sa_ne (by decide), sa_ne (by decide), sa_ne (by decide), sa_ne (by decide), sa_eq, rs_ne j2, q5 84 (by decide)]
  · rw [o 91 (by decide) (by decide) (by decide) (by decide) (by decide), q5 91 (by decide)]
    exact h.2.2.2.2.2.2.2.2
theorem SL.z {N : Nat} {T : Ty} {v : Ct} {c : Int} {x : Nat} (h : SL N T v c x) : (v 66 x = -1 ∧ v 89 x = 0) ∨ (0 ≤ v 66 x ∧ v 89 x ≠ 0) := by
  rcases h with q | ⟨q1, g, q2, -⟩
  · exact Or.inl q
  · exact Or.inr ⟨by omega, q1⟩
theorem q_digest {N : Nat} {T : Ty} {v : Ct} {c : Int} (h : LI N T v c) : BO isJ mX7_digest mX8_digest N T v (c + 1) := by
  have hT := h.1
  have hV := h.2.2.1
  obtain ⟨s, hs1, hs2⟩ := h.2.2.2.1
  obtain ⟨n, e1, e2, e3, e4⟩ : TX v := h.2.2.2.2.2.2.2.1
  have hH : DR (v 2) (v 3) (v 4) (v 5) (v 6) (v 7) (v 8) (v 9) (v 85) := hV.1
  refine ⟨14, by decide, RunsP.imp (c_X7_digest (N := N) (hz := v 89) (n := n) hT hV hs1.1 (fun q hq => ?_) e1 e3) (fun r1 v1 q => ?_)⟩
  · rcases (show q = 0 ∨ q = 1 by omega) with rfl | rfl
    · exact h.2.2.2.2.1.z
    · exact h.2.2.2.2.2.1.z
  obtain ⟨q1, q5⟩ := q
  refine ⟨_, ⟨_, rfl⟩, q1, 11, by decide, ?_⟩
  have hRf := c_X8_digest (N := N) (T := T) (G := v1 84) (B := v1 92) (F := v1 94) (O := v1 93) (A := v1 88) (R := v1 85) (n := n) (v := v1) hT (by rw [q5 85 (by decide)]; exact hV.1.RI) (by rw [q5 85 (by decide)]; exact hH.us.1) (by rw [q5 84 (by decide)]; exact e2) e3
  rw [← sa_self6b v1] at hRf
  refine RunsP.imp hRf (fun r3 v3 w => ?_)
  obtain ⟨B2, F2, O2, A2, w1, w2⟩ := w
  have o : ∀ b, b ≠ 84 → b ≠ 92 → b ≠ 94 → b ≠ 93 → b ≠ 88 → b ≠ 85 → v3 b = v1 b := fun b k1 k2 k3 k4 k5 k6 => by rw [w2, sa_ne k6, sa_ne k5, sa_ne k4, sa_ne k3, sa_ne k2, sa_ne k1]
  refine ⟨?_, h.lk (Nat.le_refl _) (show c ≤ c + 1 by omega) (fun b hb9 => ?_) (fun j j1 j2 => ?_) ?_⟩
  · rw [w1, q5 89 (by decide), q5 90 (by decide), q5 85 (by decide), ← e4]
    refine congrArg (fun z => some (vJ z)) (dgV_cg (fun w hw => ?_) (fun _ _ => rfl))
    rw [ctF_eq (s := s) (by rw [sa_ne (by decide), sa_ne (by decide), sa_ne (by decide), sa_ne (by decide), sa_ne (by decide), sa_eq, rs_ne (by decide), q5 84 (by decide)]; exact hs2) hw, sa_eq]
  · by_cases h85 : b = 85
    · rw [h85, w2, sa_eq, q5 85 (by decide)]
    · exact (o b (by omega) (by omega) (by omega) (by omega) (by omega) h85).trans (q5 b (by omega))
  · rw [w2, sa_ne (by decide), sa_ne (by decide), sa_ne (by decide), sa_ne (by decide), sa_ne (by decide), sa_eq, rs_ne j2, q5 84 (by decide)]
  · rw [o 91 (by decide) (by decide) (by decide) (by decide) (by decide) (by decide), q5 91 (by decide)]
    exact h.2.2.2.2.2.2.2.2
