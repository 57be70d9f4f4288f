/-! the orders, one after the other: append, run -/
/-- a step that leaves the slots alone -/
theorem LI.stepT {N N2 : Nat} {T : Ty} {v v2 : Ct} {c c2 : Int} (h : LI N T v c) (hN : N ≤ N2) (hc : c ≤ c2) (hV : DV v2 1 (v2 85) c2) (hH : HS v2 c2) (h66 : v2 66 = v 66) (h89 : v2 89 = v 89) (h87 : v2 87 = v 87) (hv : ∀ a, 96 ≤ a → a < N → v2 a = v a) (hX : TX v2) (h91 : HOK (v2 91)) : LI N2 T v2 c2 := by
  obtain ⟨i1, i2, i3, i4, i5, i6, i7, i8, i9⟩ := h
  exact ⟨i1, by omega, hV, hH, i5.keep hN hc (fun g q _ => q) (by rw [h66]) (by rw [h89]) (fun z _ => by rw [h87]) hv, i6.keep hN hc (fun g q _ => q) (by rw [h66]) (by rw [h89]) (fun z _ => by rw [h87]) hv, i7.keep (fun x _ => by rw [h66]), hX, h91⟩
theorem p_append {N : Nat} {T : Ty} {v : Ct} {c x : Int} (h : LI N T v c) (hx : i32 x) : ∃ code d, d ≤ 20 ∧ RunsE mL_append hL_append d 1 6 [vR 0, vI x, vR 95] N T v (AG N T mX8_append [vI x] code (c + 1)) := by
  have hT := h.1
  obtain ⟨n, e1, e2, e3, e4⟩ : TX v := h.2.2.2.2.2.2.2.1
  by_cases hb : 33 ≤ x ∧ x ≤ 126
  · by_cases h60 : n = 60
    · refine ⟨2, 7, by decide, (x_append_2 hT (t_X7_append_s hT hb (by omega))).imp (fun r1 N1 T1 v1 q => ?_)⟩
      obtain ⟨q1, q2, rfl, rfl⟩ := q
      exact h.bad q2 (by omega) (by decide) (by decide) q1 (c_X8_append_b2 (G := v1 84) (v := v1) hT hx (inB_t hb.1 hb.2) (by omega))
    · have hR := c_X7_append (N := N) (T := T) (U := v 68) (X := v 67) (v := v) hT e1 (show n < 60 by omega) hb
      rw [← sa_self2 v 68 67] at hR
      refine ⟨0, 2, by decide, (w_append hT hR (fun r1 v1 q => ⟨_, q.1⟩)).imp (fun r1 N1 T1 v1 q => ?_)⟩
      obtain ⟨q1, rfl, rfl, z, v2, ⟨q4, q5⟩, q6⟩ := q
      have e : z = ((n + 1 : Nat) : Int) := by cases q4; rfl
      have o1 : ∀ a, a ≠ 68 → a ≠ 67 → a ≠ 95 → v1 a = v a := fun a k1 k2 k3 => by rw [q6, sa_ne k3, q5, sa_ne k2, sa_ne k1]
      have e68 : v1 68 = rs (v 68) n x := by rw [q6, sa_ne (by decide), q5, sa_ne (by decide), sa_eq]
      have e67 : v1 67 1 = ((n + 1 : Nat) : Int) := by rw [q6, sa_ne (by decide), q5, sa_eq, rs_eq]
      have e95 : v1 95 0 = wr ((n + 1 : Nat) : Int) := by rw [q6, sa_eq, rs_eq, e]
      refine ⟨⟨q1, by decide⟩, hT, Nat.le_refl _, 1, by decide, ?_⟩
      have hRf := c_X8_append (N := N1) (T := T1) (U := v1 90) (G := v1 84) (x := x) (n := n) (v := v1) hT hb (by rw [o1 84 (by decide) (by decide) (by decide)]; exact e2) (show n < 60 by omega)
      rw [← sa_self2 v1 90 84] at hRf
      refine RunsP.imp hRf (fun r3 v3 w => ⟨_, w.1, ?_⟩)
      have w2 := w.2
      have o : ∀ a, a ≠ 68 → a ≠ 67 → a ≠ 95 → a ≠ 90 → a ≠ 84 → v3 a = v a := fun a k1 k2 k3 k4 k5 => by rw [w2, sa_ne k5, sa_ne k4, o1 a k1 k2 k3]
      have e84 : ∀ j, j ≠ 7 → j ≠ 13 → v3 84 j = v 84 j := fun j j1 j2 => by rw [w2, sa_eq, rs_ne j1, rs_ne j2, o1 84 (by decide) (by decide) (by decide)]
      obtain ⟨s, hs1, hs2⟩ := h.2.2.2.1
      refine ⟨by rw [w2, sa_eq, rs_ne (by decide), rs_eq], fun _ => by rw [w2, sa_ne (by decide), sa_ne (by decide), e95], ?_⟩
      refine h.stepT (Nat.le_refl _) (show c ≤ c + 1 by omega) ?_ ⟨s, ?_, ?_⟩ (o _ (by decide) (by decide) (by decide) (by decide) (by decide)) (o _ (by decide) (by decide) (by decide) (by decide) (by decide)) (o _ (by decide) (by decide) (by decide) (by decide) (by decide)) (fun a h1 _ => o a (by omega) (by omega) (by omega) (by omega) (by omega)) ⟨n + 1, ?_, ?_, by omega, ?_⟩ ?_
      · rw [o 85 (by decide) (by decide) (by decide) (by decide) (by decide)]
        exact (h.2.2.1.same (fun k hk => o _ (by omega) (by omega) (by omega) (by omega) (by omega)) (fun _ _ => rfl)).mono (by omega)
      · rw [o 86 (by decide) (by decide) (by decide) (by decide) (by decide)]
        exact (hs1.same (fun a h1 h2 => o a (by omega) (by omega) (by omega) (by omega) (by omega))).mono (by omega)
      · rw [e84 5 (by decide) (by decide)]
        exact hs2
      · rw [w2, sa_ne (by decide), sa_ne (by decide), e67]
      · rw [w2, sa_eq, rs_eq]
      · rw [w2, sa_ne (by decide), sa_ne (by decide), sa_ne (by decide), sa_eq, e68, e4, o1 90 (by decide) (by decide) (by decide)]
      · rw [o 91 (by decide) (by decide) (by decide) (by decide) (by decide)]
        exact h.2.2.2.2.2.2.2.2
  · refine ⟨1, 8, by decide, (x_append_1 hT (t_X7_append_a hT hx hb)).imp (fun r1 N1 T1 v1 q => ?_)⟩
    obtain ⟨q1, q2, rfl, rfl⟩ := q
    exact h.bad q2 (by omega) (by decide) (by decide) q1 (c_X8_append_b1 (G := v1 84) (v := v1) hT hx (inB_f (by omega)))
theorem sa_self7 (v : Ct) : v = sa (sa (sa (sa (sa (sa (sa v 91 (v 91)) 86 (v 86)) 84 (v 84)) 94 (v 94)) 93 (v 93)) 88 (v 88)) 85 (v 85) := by
  rw [← sa_self v 91, ← sa_self6 v]
theorem p_run {N : Nat} {T : Ty} {v : Ct} {c : Int} (h : LI N T v c) (hc : c < 900000) : ∃ code d, d ≤ 20 ∧ RunsE mL_run hL_run d 1 6 [vR 0, vR 95] N T v (AG N T mX8_run [] code (c + 61)) := by
  have hT := h.1
  have hV := h.2.2.1
  have hO : HOK (v 91) := h.2.2.2.2.2.2.2.2
  obtain ⟨s, hs, hs2⟩ := h.2.2.2.1
  obtain ⟨n, e1, e2, e3, e4⟩ : TX v := h.2.2.2.2.2.2.2.1
  cases hwl : (wlI (v 68) n (v 91) 60).1 with
  | false =>
    have hR := t_X7_run_w (N := N) (D := v 69) (H2 := v 91) (v := v) hT e1 e3 hwl
    rw [← sa_self v 69] at hR
    refine ⟨1, 7, by decide, (x_run_1 hT hR).imp (fun r1 N1 T1 v1 q => ?_)⟩
    obtain ⟨q1, q2, rfl, q4⟩ := q
    have o1 : ∀ a, a ≠ 69 → v1 a = v a := fun a k => by rw [q4, sa_ne k]
    have hRf := c_X8_run_b (N := N1) (T := T1) (H := v1 91) (G := v1 84) (n := n) (v := v1) hT (by rw [o1 84 (by decide)]; exact e2) e3 (by rw [o1 90 (by decide), o1 91 (by decide), ← e4]; exact hwl)
    rw [← sa_self2 v1 91 84] at hRf
    refine ⟨⟨q1, by decide⟩, hT, q2, 7, by decide, RunsP.imp hRf (fun r3 v3 w => ⟨0, w.1, ?_⟩)⟩
    have w2 := w.2
    have o : ∀ a, a ≠ 69 → a ≠ 91 → a ≠ 84 → v3 a = v a := fun a k1 k2 k3 => by rw [w2, sa_ne k3, sa_ne k2, o1 a k1]
    have e84 : ∀ j, j ≠ 8 → j ≠ 13 → v3 84 j = v 84 j := fun j j1 j2 => by rw [w2, sa_eq, rs_ne j2, rs_ne j1, rs_ne j2, o1 84 (by decide)]
    refine ⟨by rw [w2, sa_eq, rs_eq], fun z => by omega, ?_⟩
    refine h.step q2 (show c ≤ c + 61 by omega) ?_ ⟨s, ?_, ?_⟩ (o _ (by decide) (by decide) (by decide)) (o _ (by decide) (by decide) (by decide)) (o _ (by decide) (by decide) (by decide)) (fun a h1 _ => o a (by omega) (by omega) (by omega)) (by rw [o 67 (by decide) (by decide) (by decide)]) (e84 7 (by decide) (by decide)) (o _ (by decide) (by decide) (by decide)) (o _ (by decide) (by decide) (by decide)) ?_
    · rw [o 85 (by decide) (by decide) (by decide)]
      exact (hV.same (fun k hk => o _ (by omega) (by omega) (by omega)) (fun _ _ => rfl)).mono (by omega)
    · rw [o 86 (by decide) (by decide) (by decide)]
      exact (hs.same (fun a h1 h2 => o a (by omega) (by omega) (by omega))).mono (by omega)
    · rw [e84 5 (by decide) (by decide)]
      exact hs2
    · rw [w2, sa_ne (by decide), sa_eq]
      exact wl_ok (by rw [o1 91 (by decide)]; exact hO) 60
  | true =>
    have hO2 : HOK (wlI (v 68) n (v 91) 60).2.2 := wl_ok hO 60
    have hDR : DRx (v 85) := ⟨_, _, _, _, _, _, _, _, hV.1⟩
    obtain ⟨-, -, w3, w4⟩ := (wl_rd (U := v 68) (H := v 91) e3 (v 69)).1 hwl
    have hacc : acc (v 68) (v 69) n := ⟨w3, w4⟩
    have hR := c_X7_run (N := N) (D := v 69) (H := (wlI (v 68) n (v 91) 60).2.2) (H2 := v 91) (A := v 88) (R := v 85) (P := v 86) (v := v) hT e1 e3 hwl hV hs (by omega) hO2
    rw [← sa_self v 69] at hR
    refine ⟨0, 9, by decide, (w_run hT hR (fun r1 v1 q => ⟨_, q.1⟩)).imp (fun r1 N1 T1 v1 q => ?_)⟩
    obtain ⟨q1, rfl, rfl, z, v2, ⟨q4, q5, q6, q7, q8⟩, q9⟩ := q
    have e : z = (((rnI (v 68) n (wlI (v 68) n (v 91) 60).2.2 (v 88) (v 85) 60).2.2.1 : Nat) : Int) := by cases q4; rfl
    have g1 : ∀ a, a ≠ 95 → v1 a = v2 a := fun a k => by rw [q9, sa_ne k]
    have g : ∀ a, 84 ≤ a → a ≠ 95 → v1 a = v a := fun a k1 k2 => (g1 a k2).trans (q8 a (Or.inr (Or.inr k1)))
    refine ⟨⟨q1, by decide⟩, hT, Nat.le_refl _, 10, by decide, ?_⟩
    have hRf := c_X8_run (N := N1) (T := T1) (H := v 91) (P := v 86) (G := v 84) (F := v 94) (O := v 93) (A := v 88) (R := v 85) (n := n) (s := s) (W := wlI (v1 90) n (v 91) 60) (v := v1) hT e2 e3 rfl (by rw [g 90 (by decide) (by decide), ← e4]; exact hwl) hs2 hs.2.1 (by
      rw [g 90 (by decide) (by decide), ← e4]
      exact fun i hi => (rnJ_ok e3 hacc (rn_all e3 hacc hDR hO2 i) hi).1)
    have e7 := sa_self7 v1
    rw [g 91 (by decide) (by decide), g 86 (by decide) (by decide), g 84 (by decide) (by decide), g 94 (by decide) (by decide), g 93 (by decide) (by decide), g 88 (by decide) (by decide), g 85 (by decide) (by decide)] at e7
    rw [← e7, g 90 (by decide) (by decide), ← e4] at hRf
    refine RunsP.imp hRf (fun r3 v3 w => ⟨_, w.1, ?_⟩)
    have w2 := w.2
    have o : ∀ a, a ≠ 91 → a ≠ 86 → a ≠ 84 → a ≠ 94 → a ≠ 93 → a ≠ 88 → a ≠ 85 → v3 a = v1 a := fun a k1 k2 k3 k4 k5 k6 k7 => by rw [w2, sa_ne k7, sa_ne k6, sa_ne k5, sa_ne k4, sa_ne k3, sa_ne k2, sa_ne k1]
    have e85 : v3 85 = (rnI (v 68) n (wlI (v 68) n (v 91) 60).2.2 (v 88) (v 85) 60).2.2.2.2.2 := by rw [w2, sa_eq]
    have e86 : v3 86 = svP (v 86) (v 85) s := by rw [w2, sa_ne (by decide), sa_ne (by decide), sa_ne (by decide), sa_ne (by decide), sa_ne (by decide), sa_eq]
    have e84 : v3 84 = rs (rs (rs (rs (v 84) 13 0) 5 ((svN s : Nat) : Int)) 8 (((rnI (v 68) n (wlI (v 68) n (v 91) 60).2.2 (v 88) (v 85) 60).2.1 : Nat) : Int)) 7 0 := by rw [w2, sa_ne (by decide), sa_ne (by decide), sa_ne (by decide), sa_ne (by decide), sa_eq]
    have e91 : v3 91 = (rnI (v 68) n (wlI (v 68) n (v 91) 60).2.2 (v 88) (v 85) 60).2.2.2.1 := by rw [w2, sa_ne (by decide), sa_ne (by decide), sa_ne (by decide), sa_ne (by decide), sa_ne (by decide), sa_ne (by decide), sa_eq]
    refine ⟨by rw [e84, rs_ne (by decide), rs_ne (by decide), rs_ne (by decide), rs_eq], fun _ => by rw [o 95 (by decide) (by decide) (by decide) (by decide) (by decide) (by decide) (by decide), q9, sa_eq, rs_eq, e], ?_⟩
    have o9 : ∀ a, (a = 66 ∨ a = 68 ∨ 84 ≤ a) → a ≠ 95 → a ≠ 91 → a ≠ 86 → a ≠ 84 → a ≠ 94 → a ≠ 93 → a ≠ 88 → a ≠ 85 → v3 a = v a := fun a k0 k9 k1 k2 k3 k4 k5 k6 k7 => (o a k1 k2 k3 k4 k5 k6 k7).trans ((g1 a k9).trans (q8 a k0))
    refine h.stepT (Nat.le_refl _) (show c ≤ c + 61 by omega) ?_ ⟨svN s, ?_, ?_⟩ (o9 _ (by decide) (by decide) (by decide) (by decide) (by decide) (by decide) (by decide) (by decide) (by decide)) (o9 _ (by decide) (by decide) (by decide) (by decide) (by decide) (by decide) (by decide) (by decide) (by decide)) (o9 _ (by decide) (by decide) (by decide) (by decide) (by decide) (by decide) (by decide) (by decide) (by decide)) (fun a h1 _ => o9 a (by omega) (by omega) (by omega) (by omega) (by omega) (by omega) (by omega) (by omega) (by omega)) ⟨0, ?_, ?_, by omega, ?_⟩ ?_
    · rw [e85]
      exact q5.same (fun k hk => (o _ (by omega) (by omega) (by omega) (by omega) (by omega) (by omega) (by omega)).trans (g1 _ (by omega))) (fun _ _ => rfl)
    · rw [e86]
      exact q6.same (fun a h1 h2 => (o _ (by omega) (by omega) (by omega) (by omega) (by omega) (by omega) (by omega)).trans (g1 _ (by omega)))
    · rw [e84, rs_ne (by decide), rs_ne (by decide), rs_eq]
    · rw [o 67 (by decide) (by decide) (by decide) (by decide) (by decide) (by decide) (by decide), g1 67 (by decide)]
      exact q7
    · rw [e84, rs_eq]
      rfl
    · rw [o9 68 (by decide) (by decide) (by decide) (by decide) (by decide) (by decide) (by decide) (by decide) (by decide), o9 90 (by decide) (by decide) (by decide) (by decide) (by decide) (by decide) (by decide) (by decide) (by decide)]
      exact e4
    · rw [e91]
      exact (rn_all e3 hacc hDR hO2 60).2.2.2
