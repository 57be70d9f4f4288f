/-! the orders, one after the other: heal -/
theorem DR.hlB0 {K O Rk Z B S W P r : Nat → Int} (H : DR K O Rk Z B S W P r) {b : Nat} (hb : b < 24) (h : hlB r b = false) (h3 : K b = 3) : orB (fun f => hsB O Z B f b) 10 = true := by
  have hk := H.kind hb
  unfold hlB at h
  rw [decide_eq_true (show r (3 + b) = 3 by omega), Bool.true_and] at h
  cases ho : orN (fun f => hasIn r f (b : Int)) 10 with
  | false => rw [ho] at h; cases h
  | true =>
    obtain ⟨i, hi, hp⟩ := orN_iff.mp ho
    exact orB_t hi (by rw [← H.inn hi hb]; exact hp)
theorem p_heal {N : Nat} {T : Ty} {v : Ct} {c x : Int} (h : LI N T v c) (hx : i32 x) (hc : c < 900000) : ∃ code d, d ≤ 20 ∧ RunsE mL_heal hL_heal d 1 6 [vR 0, vI x, vR 95] N T v (AG N T mX8_heal [vI x] code (c + 1)) := by
  have hT := h.1
  have hV := h.2.2.1
  have hH : DR (v 2) (v 3) (v 4) (v 5) (v 6) (v 7) (v 8) (v 9) (v 85) := hV.1
  obtain ⟨s, hs, hs2⟩ := h.2.2.2.1
  by_cases hb : 0 ≤ x ∧ x < 24
  · obtain ⟨a, rfl⟩ : ∃ a : Nat, x = (a : Int) := ⟨x.toNat, by omega⟩
    cases h3 : hlB (v 85) a with
    | false =>
      refine ⟨2, 7, by decide, (x_heal_2 hT (t_X7_heal_s hT (show a < 24 by omega) (fun q => hH.hlB0 (by omega) h3 q))).imp (fun r1 N1 T1 v1 q => ?_)⟩
      obtain ⟨q1, q2, rfl, rfl⟩ := q
      exact h.bad q2 (by omega) (by decide) (by decide) q1 (c_X8_heal_b2 (G := v1 84) (v := v1) hT hV.1.RI (show a < 24 by omega) h3)
    | true =>
      have hR := c_X7_heal (N := N) hT hV hs (by omega) (show a < 24 by omega) h3
      refine ⟨0, 4, by decide, (w_heal hT hR (fun r1 v1 q => ⟨_, q.1⟩)).imp (fun r1 N1 T1 v1 q => ?_)⟩
      obtain ⟨q1, rfl, rfl, z, v2, ⟨q4, q5, q6, q7⟩, rfl⟩ := q
      have e : z = cntK (rs (v 85) (3 + a) 0) 3 := by cases q4; rfl
      subst e
      refine ⟨⟨q1, by decide⟩, hT, Nat.le_refl _, 4, by decide, ?_⟩
      have hRf := c_X8_heal (N := N1) (P := v 86) (G := v 84) (F := v 94) (O := v 93) (A := v 88) (R := v 85) (s := s) (b := a) (v := sa v2 95 (rs (v2 95) 0 (wr (cntK (rs (v 85) (3 + a) 0) 3)))) hT hs2 hs.2.1 hV.1.RI (by omega) h3
      have g : ∀ b, 84 ≤ b → b ≠ 95 → sa v2 95 (rs (v2 95) 0 (wr (cntK (rs (v 85) (3 + a) 0) 3))) b = v b := fun b h1 h2 => (sa_ne h2 _).trans (q7 b (Or.inr h1))
      have e6 := sa_self6 (sa v2 95 (rs (v2 95) 0 (wr (cntK (rs (v 85) (3 + a) 0) 3))))
      rw [g 86 (by decide) (by decide), g 84 (by decide) (by decide), g 94 (by decide) (by decide), g 93 (by decide) (by decide), g 88 (by decide) (by decide), g 85 (by decide) (by decide)] at e6
      rw [← e6] at hRf
      refine RunsP.imp hRf (fun r3 v3 w => ⟨_, w.1, ?_⟩)
      obtain ⟨k1, k2, k3⟩ := LI.both h hs hs2 (show c ≤ c + 1 by omega) (q5.mono (by omega)) (q6.mono (by omega)) q7 w.2
      exact ⟨k1, fun _ => k2, k3⟩
  · refine ⟨1, 8, by decide, (x_heal_1 hT (t_X7_heal_b hT hx hb)).imp (fun r1 N1 T1 v1 q => ?_)⟩
    obtain ⟨q1, q2, rfl, rfl⟩ := q
    exact h.bad q2 (by omega) (by decide) (by decide) q1 (c_X8_heal_b1 (G := v1 84) (v := v1) hT hx (inB_f (by omega)))
