/-! the orders, one after the other: set, spoil -/
theorem p_set {N : Nat} {T : Ty} {v : Ct} {c x : Int} (h : LI N T v c) (hx : i32 x) (hc : c < 900000) : ∃ code d, d ≤ 20 ∧ RunsE mL_set hL_set d 1 6 [vR 0, vI x, vR 95] N T v (AG N T mX8_set [vI x] code (c + 1)) := by
  have hT := h.1
  have hV := h.2.2.1
  obtain ⟨s, hs, hs2⟩ := h.2.2.2.1
  by_cases hb : 0 ≤ x ∧ x ≤ 1
  · have hR := c_X7_set (N := N) hT hV hs (by omega) (show x = 0 ∨ x = 1 by omega)
    refine ⟨0, 3, by decide, (w_set hT hR (fun r1 v1 q => ⟨_, q.1⟩)).imp (fun r1 N1 T1 v1 q => ?_)⟩
    obtain ⟨q1, rfl, rfl, z, v2, ⟨q4, q5, q6, q7⟩, rfl⟩ := q
    have e : z = v 85 2 := by cases q4; rfl
    subst e
    refine ⟨⟨q1, by decide⟩, hT, Nat.le_refl _, 1, by decide, ?_⟩
    have hRf := c_X8_set (N := N1) (P := v 86) (G := v 84) (F := v 94) (O := v 93) (A := v 88) (R := v 85) (s := s) (x := x) (v := sa v2 95 (rs (v2 95) 0 (wr (v 85 2)))) hT hs2 hs.2.1 hV.1.RI hb
    have g : ∀ b, 84 ≤ b → b ≠ 95 → sa v2 95 (rs (v2 95) 0 (wr (v 85 2))) b = v b := fun b h1 h2 => (sa_ne h2 _).trans (q7 b (Or.inr h1))
    have e6 := sa_self6 (sa v2 95 (rs (v2 95) 0 (wr (v 85 2))))
    rw [g 86 (by decide) (by decide), g 84 (by decide) (by decide), g 94 (by decide) (by decide), g 93 (by decide) (by decide), g 88 (by decide) (by decide), g 85 (by decide) (by decide)] at e6
    rw [← e6] at hRf
    refine RunsP.imp hRf (fun r3 v3 w => ⟨_, w.1, ?_⟩)
    obtain ⟨k1, k2, k3⟩ := LI.both h hs hs2 (show c ≤ c + 1 by omega) (q5.mono (by omega)) (q6.mono (by omega)) q7 w.2
    exact ⟨k1, fun _ => k2, k3⟩
  · refine ⟨1, 8, by decide, (x_set_1 hT (t_X7_set_a hT hx hb)).imp (fun r1 N1 T1 v1 q => ?_)⟩
    obtain ⟨q1, q2, rfl, rfl⟩ := q
    exact h.bad q2 (by omega) (by decide) (by decide) q1 (c_X8_set_b (G := v1 84) (v := v1) hT hx (inB_f (by omega)))
theorem p_spoil {N : Nat} {T : Ty} {v : Ct} {c x : Int} (h : LI N T v c) (hx : i32 x) (hc : c < 900000) : ∃ code d, d ≤ 20 ∧ RunsE mL_spoil hL_spoil d 1 6 [vR 0, vI x, vR 95] N T v (AG N T mX8_spoil [vI x] code (c + 1)) := by
  have hT := h.1
  have hV := h.2.2.1
  have hH : DR (v 2) (v 3) (v 4) (v 5) (v 6) (v 7) (v 8) (v 9) (v 85) := hV.1
  obtain ⟨s, hs, hs2⟩ := h.2.2.2.1
  by_cases hb : 0 ≤ x ∧ x < 24
  · obtain ⟨a, rfl⟩ : ∃ a : Nat, x = (a : Int) := ⟨x.toNat, by omega⟩
    have hk := hH.kind (b := a) (by omega)
    by_cases h3 : v 85 (3 + a) = 3
    · refine ⟨2, 7, by decide, (x_spoil_2 hT (t_X7_spoil_s hT (show a < 24 by omega) (by omega))).imp (fun r1 N1 T1 v1 q => ?_)⟩
      obtain ⟨q1, q2, rfl, rfl⟩ := q
      exact h.bad q2 (by omega) (by decide) (by decide) q1 (c_X8_spoil_b2 (G := v1 84) (v := v1) hT (show a < 24 by omega) h3)
    · have hR := c_X7_spoil (N := N) hT hV hs (by omega) (show a < 24 by omega) h3
      refine ⟨0, 4, by decide, (w_spoil hT hR (fun r1 v1 q => ⟨_, q.1⟩)).imp (fun r1 N1 T1 v1 q => ?_)⟩
      obtain ⟨q1, rfl, rfl, z, v2, ⟨q4, q5, q6, q7⟩, rfl⟩ := q
      have e : z = spV (v 85) ((a : Nat) : Int) 10 := by cases q4; rfl
      subst e
      refine ⟨⟨q1, by decide⟩, hT, Nat.le_refl _, 4, by decide, ?_⟩
      have hRf := c_X8_spoil (N := N1) (P := v 86) (G := v 84) (F := v 94) (O := v 93) (A := v 88) (R := v 85) (s := s) (b := a) (v := sa v2 95 (rs (v2 95) 0 (wr (spV (v 85) ((a : Nat) : Int) 10)))) hT hs2 hs.2.1 hV.1.RI (by omega) h3
      have g : ∀ b, 84 ≤ b → b ≠ 95 → sa v2 95 (rs (v2 95) 0 (wr (spV (v 85) ((a : Nat) : Int) 10))) b = v b := fun b h1 h2 => (sa_ne h2 _).trans (q7 b (Or.inr h1))
      have e6 := sa_self6 (sa v2 95 (rs (v2 95) 0 (wr (spV (v 85) ((a : Nat) : Int) 10))))
      rw [g 86 (by decide) (by decide), g 84 (by decide) (by decide), g 94 (by decide) (by decide), g 93 (by decide) (by decide), g 88 (by decide) (by decide), g 85 (by decide) (by decide)] at e6
      rw [← e6] at hRf
      refine RunsP.imp hRf (fun r3 v3 w => ⟨_, w.1, ?_⟩)
      obtain ⟨k1, k2, k3⟩ := LI.both h hs hs2 (show c ≤ c + 1 by omega) (q5.mono (by omega)) (q6.mono (by omega)) q7 w.2
      exact ⟨k1, fun _ => k2, k3⟩
  · refine ⟨1, 8, by decide, (x_spoil_1 hT (t_X7_spoil_b hT hx hb)).imp (fun r1 N1 T1 v1 q => ?_)⟩
    obtain ⟨q1, q2, rfl, rfl⟩ := q
    exact h.bad q2 (by omega) (by decide) (by decide) q1 (c_X8_spoil_b1 (G := v1 84) (v := v1) hT hx (inB_f (by omega)))
