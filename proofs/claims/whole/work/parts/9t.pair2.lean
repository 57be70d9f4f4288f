/-! the orders, one after the other: create -/
theorem p_create {N : Nat} {T : Ty} {v : Ct} {c x : Int} (h : LI N T v c) (hx : i32 x) (hc : c < 900000) : ∃ code d, d ≤ 20 ∧ RunsE mL_create hL_create d 1 6 [vR 0, vI x, vR 95] N T v (AG N T mX8_create [vI x] code (c + 1)) := by
  have hT := h.1
  have hV := h.2.2.1
  obtain ⟨s, hs, hs2⟩ := h.2.2.2.1
  by_cases hb : 0 ≤ x ∧ x ≤ 200
  · obtain ⟨a, rfl⟩ : ∃ a : Nat, x = (a : Int) := ⟨x.toNat, by omega⟩
    have hR := c_X7_create (N := N) hT hV hs (by omega) (show a ≤ 200 by omega)
    refine ⟨0, 6, by decide, (w_create hT hR (fun r1 v1 q => ⟨_, q.1⟩)).imp (fun r1 N1 T1 v1 q => ?_)⟩
    obtain ⟨q1, rfl, rfl, z, v2, ⟨q4, q5, q6, q7⟩, rfl⟩ := q
    have e : z = crV (v 85) a := by cases q4; rfl
    subst e
    refine ⟨⟨q1, by decide⟩, hT, Nat.le_refl _, 9, by decide, ?_⟩
    have hRf := c_X8_create (N := N1) (P := v 86) (G := v 84) (F := v 94) (O := v 93) (A := v 88) (R := v 85) (s := s) (x := a) (v := sa v2 95 (rs (v2 95) 0 (wr (crV (v 85) a)))) hT hs2 hs.2.1 hV.1.RI (by omega)
    have g : ∀ b, 84 ≤ b → b ≠ 95 → sa v2 95 (rs (v2 95) 0 (wr (crV (v 85) a))) b = v b := fun b h1 h2 => (sa_ne h2 _).trans (q7 b (Or.inr h1))
    have e6 := sa_self6 (sa v2 95 (rs (v2 95) 0 (wr (crV (v 85) a))))
    rw [g 86 (by decide) (by decide), g 84 (by decide) (by decide), g 94 (by decide) (by decide), g 93 (by decide) (by decide), g 88 (by decide) (by decide), g 85 (by decide) (by decide)] at e6
    rw [← e6] at hRf
    refine RunsP.imp hRf (fun r3 v3 w => ⟨_, w.1, ?_⟩)
    obtain ⟨k1, k2, k3⟩ := LI.both h hs hs2 (by omega) q5 q6 q7 w.2
    exact ⟨k1, fun _ => k2, k3⟩
  · refine ⟨1, 8, by decide, (x_create_1 hT (t_X7_create_a hT hx hb)).imp (fun r1 N1 T1 v1 q => ?_)⟩
    obtain ⟨q1, q2, rfl, rfl⟩ := q
    refine ⟨⟨q1, by decide⟩, hT, q2, 1, by decide, ?_⟩
    have hRf := c_X8_create_b (N := N1) (G := v1 84) (v := v1) hT hx (inB_f (by omega))
    rw [← sa_self v1 84] at hRf
    refine RunsP.imp hRf (fun r3 v3 w => ⟨0, w.1, ?_⟩)
    rw [w.2]
    exact ⟨by rw [sa_eq, rs_eq], fun z => by omega, h.no q2 (by omega)⟩
