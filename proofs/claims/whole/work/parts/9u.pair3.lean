/-! the orders, one after the other: grow, cut, delete -/
theorem LI.isF {N : Nat} {T : Ty} {v : Ct} {c : Int} (h : LI N T v c) (x : Int) : isF (v 85) x = exF (v 5) x := by
  have hH : DR (v 2) (v 3) (v 4) (v 5) (v 6) (v 7) (v 8) (v 9) (v 85) := h.2.2.1.1
  rw [hH.exf x]
  unfold CTailBlocksLaw_law_r2298_19f52e.isF
  by_cases h1 : 0 ≤ x ∧ x ≤ 9
  · by_cases h2 : ro (v 85) x.toNat 0 = 1
    · rw [decide_eq_true h1, decide_eq_true h2, decide_eq_true ⟨h1.1, h1.2, h2⟩]; rfl
    · rw [decide_eq_true h1, decide_eq_false h2, decide_eq_false (fun q => h2 q.2.2)]; rfl
  · rw [decide_eq_false h1, decide_eq_false (p := 0 ≤ x ∧ x ≤ 9 ∧ _) (fun q => h1 ⟨q.1, q.2.1⟩)]; rfl
/-- what the reference did not do -/
theorem LI.bad {N N1 : Nat} {T : Ty} {v : Ct} {c c2 code : Int} {Y : MD} {D : Nat} {as : List MV} (h : LI N T v c) (hN : N ≤ N1) (hc : c ≤ c2) (h0 : code ≠ 0 ∧ 0 ≤ code ∧ code ≤ 2) (hD : D ≤ 20) {r1 : Option MV} (q1 : r1 = some (vI code))
    (hR : Runs Y D 0 0 (vR 84 :: as) N1 T (sa v 84 (v 84)) (some (vI 0)) N1 T (sa v 84 (rs (v 84) 13 code))) : AG N T Y as code c2 r1 N1 T v := by
  rw [← sa_self v 84] at hR
  refine ⟨⟨q1, h0.2⟩, h.1, hN, D, hD, RunsP.imp hR (fun r3 v3 w => ⟨0, w.1, ?_⟩)⟩
  rw [w.2]
  exact ⟨by rw [sa_eq, rs_eq], fun z => absurd z h0.1, h.no hN hc⟩
theorem p_grow {N : Nat} {T : Ty} {v : Ct} {c x y : Int} (h : LI N T v c) (hx : i32 x) (hy : i32 y) (hc : c < 900000) : ∃ code d, d ≤ 20 ∧ RunsE mL_grow hL_grow d 1 6 [vR 0, vI x, vI y, vR 95] N T v (AG N T mX8_grow [vI x, vI y] code (c + 1)) := by
  have hT := h.1
  have hV := h.2.2.1
  have hH : DR (v 2) (v 3) (v 4) (v 5) (v 6) (v 7) (v 8) (v 9) (v 85) := hV.1
  obtain ⟨s, hs, hs2⟩ := h.2.2.2.1
  cases hex : exF (v 5) x with
  | false =>
    refine ⟨1, 8, by decide, (x_grow_1 hT (t_X7_grow_f hT hx hex)).imp (fun r1 N1 T1 v1 q => ?_)⟩
    obtain ⟨q1, q2, rfl, rfl⟩ := q
    exact h.bad q2 (by omega) (by decide) (by decide) q1 (c_X8_grow_b1 (G := v1 84) (v := v1) hT hx (by rw [h.isF x]; exact hex))
  | true =>
    have hq := hex
    rw [hH.exf x] at hq
    obtain ⟨f0, f9, hfi⟩ := of_decide_eq_true hq
    obtain ⟨f, rfl⟩ : ∃ f : Nat, x = (f : Int) := ⟨x.toNat, by omega⟩
    rw [Int.toNat_natCast] at hfi
    by_cases hb : 1 ≤ y ∧ y ≤ 200
    · obtain ⟨a, rfl⟩ : ∃ a : Nat, y = (a : Int) := ⟨y.toNat, by omega⟩
      have hR := c_X7_grow (N := N) hT hV hs (by omega) (show f < 10 by omega) hfi (show 1 ≤ a ∧ a ≤ 200 by omega)
      refine ⟨0, 6, by decide, (w_grow hT hR (fun r1 v1 q => ⟨_, q.1⟩)).imp (fun r1 N1 T1 v1 q => ?_)⟩
      obtain ⟨q1, rfl, rfl, z, v2, ⟨q4, q5, q6, q7⟩, rfl⟩ := q
      have e : z = opV (gwO (v 85) f a) := by cases q4; rfl
      subst e
      refine ⟨⟨q1, by decide⟩, hT, Nat.le_refl _, 9, by decide, ?_⟩
      have hRf := c_X8_grow (N := N1) (P := v 86) (G := v 84) (F := v 94) (O := v 93) (A := v 88) (R := v 85) (s := s) (f := f) (n := a) (v := sa v2 95 (rs (v2 95) 0 (wr (opV (gwO (v 85) f a))))) hT hs2 hs.2.1 hV.1.RI (by omega) hfi (by omega) (by omega)
      have g : ∀ b, 84 ≤ b → b ≠ 95 → sa v2 95 (rs (v2 95) 0 (wr (opV (gwO (v 85) f a)))) b = v b := fun b h1 h2 => (sa_ne h2 _).trans (q7 b (Or.inr h1))
      have e6 := sa_self6 (sa v2 95 (rs (v2 95) 0 (wr (opV (gwO (v 85) f a)))))
      rw [g 86 (by decide) (by decide), g 84 (by decide) (by decide), g 94 (by decide) (by decide), g 93 (by decide) (by decide), g 88 (by decide) (by decide), g 85 (by decide) (by decide)] at e6
      rw [← e6] at hRf
      refine RunsP.imp hRf (fun r3 v3 w => ⟨_, w.1, ?_⟩)
      obtain ⟨k1, k2, k3⟩ := LI.both h hs hs2 (by omega) q5 q6 q7 w.2
      exact ⟨k1, fun _ => k2, k3⟩
    · refine ⟨2, 8, by decide, (x_grow_2 hT (t_X7_grow_a hT (show f < 10 by omega) (hH.zf (by omega) hfi) hy hb)).imp (fun r1 N1 T1 v1 q => ?_)⟩
      obtain ⟨q1, q2, rfl, rfl⟩ := q
      exact h.bad q2 (by omega) (by decide) (by decide) q1 (c_X8_grow_b2 (G := v1 84) (v := v1) hT (show f < 10 by omega) hfi hy (inB_f (by omega)))
theorem p_cut {N : Nat} {T : Ty} {v : Ct} {c x y : Int} (h : LI N T v c) (hx : i32 x) (hy : i32 y) (hc : c < 900000) : ∃ code d, d ≤ 20 ∧ RunsE mL_cut hL_cut d 1 6 [vR 0, vI x, vI y, vR 95] N T v (AG N T mX8_cut [vI x, vI y] code (c + 1)) := by
  have hT := h.1
  have hV := h.2.2.1
  have hH : DR (v 2) (v 3) (v 4) (v 5) (v 6) (v 7) (v 8) (v 9) (v 85) := hV.1
  obtain ⟨s, hs, hs2⟩ := h.2.2.2.1
  cases hex : exF (v 5) x with
  | false =>
    refine ⟨1, 8, by decide, (x_cut_1 hT (t_X7_cut_f hT hx hex)).imp (fun r1 N1 T1 v1 q => ?_)⟩
    obtain ⟨q1, q2, rfl, rfl⟩ := q
    exact h.bad q2 (by omega) (by decide) (by decide) q1 (c_X8_cut_b1 (G := v1 84) (v := v1) hT hx (by rw [h.isF x]; exact hex))
  | true =>
    have hq := hex
    rw [hH.exf x] at hq
    obtain ⟨f0, f9, hfi⟩ := of_decide_eq_true hq
    obtain ⟨f, rfl⟩ : ∃ f : Nat, x = (f : Int) := ⟨x.toNat, by omega⟩
    rw [Int.toNat_natCast] at hfi
    by_cases hb : 1 ≤ y ∧ y ≤ 200
    · obtain ⟨a, rfl⟩ : ∃ a : Nat, y = (a : Int) := ⟨y.toNat, by omega⟩
      have hR := c_X7_cut (N := N) hT hV hs (by omega) (show f < 10 by omega) hfi (show 1 ≤ a ∧ a ≤ 200 by omega)
      refine ⟨0, 6, by decide, (w_cut hT hR (fun r1 v1 q => ⟨_, q.1⟩)).imp (fun r1 N1 T1 v1 q => ?_)⟩
      obtain ⟨q1, rfl, rfl, z, v2, ⟨q4, q5, q6, q7⟩, rfl⟩ := q
      have e : z = opV (cuO (v 85) f a) := by cases q4; rfl
      subst e
      refine ⟨⟨q1, by decide⟩, hT, Nat.le_refl _, 9, by decide, ?_⟩
      have hRf := c_X8_cut (N := N1) (P := v 86) (G := v 84) (F := v 94) (O := v 93) (A := v 88) (R := v 85) (s := s) (f := f) (n := a) (v := sa v2 95 (rs (v2 95) 0 (wr (opV (cuO (v 85) f a))))) hT hs2 hs.2.1 hV.1.RI (by omega) hfi (by omega) (by omega)
      have g : ∀ b, 84 ≤ b → b ≠ 95 → sa v2 95 (rs (v2 95) 0 (wr (opV (cuO (v 85) f a)))) b = v b := fun b h1 h2 => (sa_ne h2 _).trans (q7 b (Or.inr h1))
      have e6 := sa_self6 (sa v2 95 (rs (v2 95) 0 (wr (opV (cuO (v 85) f a)))))
      rw [g 86 (by decide) (by decide), g 84 (by decide) (by decide), g 94 (by decide) (by decide), g 93 (by decide) (by decide), g 88 (by decide) (by decide), g 85 (by decide) (by decide)] at e6
      rw [← e6] at hRf
      refine RunsP.imp hRf (fun r3 v3 w => ⟨_, w.1, ?_⟩)
      obtain ⟨k1, k2, k3⟩ := LI.both h hs hs2 (by omega) q5 q6 q7 w.2
      exact ⟨k1, fun _ => k2, k3⟩
    · refine ⟨2, 8, by decide, (x_cut_2 hT (t_X7_cut_a hT (show f < 10 by omega) (hH.zf (by omega) hfi) hy hb)).imp (fun r1 N1 T1 v1 q => ?_)⟩
      obtain ⟨q1, q2, rfl, rfl⟩ := q
      exact h.bad q2 (by omega) (by decide) (by decide) q1 (c_X8_cut_b2 (G := v1 84) (v := v1) hT (show f < 10 by omega) hfi hy (inB_f (by omega)))
theorem p_delete {N : Nat} {T : Ty} {v : Ct} {c x : Int} (h : LI N T v c) (hx : i32 x) (hc : c < 900000) : ∃ code d, d ≤ 20 ∧ RunsE mL_delete hL_delete d 1 6 [vR 0, vI x, vR 95] N T v (AG N T mX8_delete [vI x] code (c + 1)) := by
  have hT := h.1
  have hV := h.2.2.1
  have hH : DR (v 2) (v 3) (v 4) (v 5) (v 6) (v 7) (v 8) (v 9) (v 85) := hV.1
  obtain ⟨s, hs, hs2⟩ := h.2.2.2.1
  cases hex : exF (v 5) x with
  | false =>
    refine ⟨1, 8, by decide, (x_delete_1 hT (t_X7_delete_f hT hx hex)).imp (fun r1 N1 T1 v1 q => ?_)⟩
    obtain ⟨q1, q2, rfl, rfl⟩ := q
    exact h.bad q2 (by omega) (by decide) (by decide) q1 (c_X8_delete_b (G := v1 84) (v := v1) hT hx (by rw [h.isF x]; exact hex))
  | true =>
    have hq := hex
    rw [hH.exf x] at hq
    obtain ⟨f0, f9, hfi⟩ := of_decide_eq_true hq
    obtain ⟨f, rfl⟩ : ∃ f : Nat, x = (f : Int) := ⟨x.toNat, by omega⟩
    rw [Int.toNat_natCast] at hfi
    have hR := c_X7_delete (N := N) hT hV hs (by omega) (show f < 10 by omega) hfi
    refine ⟨0, 5, by decide, (w_delete hT hR (fun r1 v1 q => ⟨_, q.1⟩)).imp (fun r1 N1 T1 v1 q => ?_)⟩
    obtain ⟨q1, rfl, rfl, z, v2, ⟨q4, q5, q6, q7⟩, rfl⟩ := q
    have e : z = dlV (v 85) f := by cases q4; rfl
    subst e
    refine ⟨⟨q1, by decide⟩, hT, Nat.le_refl _, 6, by decide, ?_⟩
    have hRf := c_X8_delete (N := N1) (P := v 86) (G := v 84) (F := v 94) (O := v 93) (A := v 88) (R := v 85) (s := s) (f := f) (v := sa v2 95 (rs (v2 95) 0 (wr (dlV (v 85) f)))) hT hs2 hs.2.1 hV.1.RI (by omega) hfi
    have g : ∀ b, 84 ≤ b → b ≠ 95 → sa v2 95 (rs (v2 95) 0 (wr (dlV (v 85) f))) b = v b := fun b h1 h2 => (sa_ne h2 _).trans (q7 b (Or.inr h1))
    have e6 := sa_self6 (sa v2 95 (rs (v2 95) 0 (wr (dlV (v 85) f))))
    rw [g 86 (by decide) (by decide), g 84 (by decide) (by decide), g 94 (by decide) (by decide), g 93 (by decide) (by decide), g 88 (by decide) (by decide), g 85 (by decide) (by decide)] at e6
    rw [← e6] at hRf
    refine RunsP.imp hRf (fun r3 v3 w => ⟨_, w.1, ?_⟩)
    obtain ⟨k1, k2, k3⟩ := LI.both h hs hs2 (by omega) q5 q6 q7 w.2
    exact ⟨k1, fun _ => k2, k3⟩
