/-! the looks on both sides -/
theorem LI.a95 {N : Nat} {T : Ty} {v : Ct} {c : Int} {R : Nat → Int} (h : LI N T v c) : LI N T (sa v 95 R) c := by
  have o : ∀ a, a ≠ 95 → sa v 95 R a = v a := fun a ha => sa_ne ha _
  obtain ⟨s, hs1, hs2⟩ := h.2.2.2.1
  refine h.step (Nat.le_refl _) (Int.le_refl _) ?_ ⟨s, ?_, ?_⟩ (o _ (by decide)) (o _ (by decide)) (o _ (by decide)) (fun a h1 _ => o a (by omega)) (by rw [o 67 (by decide)]) (by rw [o 84 (by decide)]) (o _ (by decide)) (o _ (by decide)) (by rw [o 91 (by decide)]; exact h.2.2.2.2.2.2.2.2)
  · rw [o 85 (by decide)]
    exact h.2.2.1.same (fun k hk => o _ (by omega)) (fun _ _ => rfl)
  · rw [o 86 (by decide)]
    exact hs1.same (fun a h1 h2 => o a (by omega))
  · rw [o 84 (by decide)]
    exact hs2
theorem LI.look {N : Nat} {T : Ty} {v : Ct} {c c2 z : Int} {Y : MD} {D : Nat} {as : List MV} (h : LI N T v c) (hc : c ≤ c2) (hD : D ≤ 20) {r1 : Option MV} (q1 : r1 = some (vI 0))
    (hR : ∀ w : Ct, w 85 = v 85 → w 84 = v 84 → Runs Y D 0 0 (vR 84 :: as) N T (sa w 84 (w 84)) (some (vI z)) N T (sa w 84 (rs (w 84) 13 0))) : AG N T Y as 0 c2 r1 N T (sa v 95 (rs (v 95) 0 (wr z))) := by
  have hw := hR (sa v 95 (rs (v 95) 0 (wr z))) (sa_ne (by decide) _) (sa_ne (by decide) _)
  rw [← sa_self (sa v 95 (rs (v 95) 0 (wr z))) 84] at hw
  refine ⟨⟨q1, by decide⟩, h.1, Nat.le_refl _, D, hD, RunsP.imp hw (fun r3 v3 w => ⟨z, w.1, ?_⟩)⟩
  rw [w.2]
  exact ⟨by rw [sa_eq, rs_eq], fun _ => by rw [sa_ne (by decide), sa_eq, rs_eq], (h.a95 (R := rs (v 95) 0 (wr z))).no (Nat.le_refl _) hc⟩
theorem p_count {N : Nat} {T : Ty} {v : Ct} {c x : Int} (h : LI N T v c) (hx : i32 x) : ∃ code d, d ≤ 20 ∧ RunsE mL_count hL_count d 1 6 [vR 0, vI x, vR 95] N T v (AG N T mX8_count [vI x] code (c + 1)) := by
  have hT := h.1
  have hV := h.2.2.1
  obtain ⟨s, hs, hs2⟩ := h.2.2.2.1
  by_cases hb : 0 ≤ x ∧ x ≤ 11
  · obtain ⟨a, rfl⟩ : ∃ a : Nat, x = (a : Int) := ⟨x.toNat, by omega⟩
    have hR := c_X7_count (N := N) hT hV (show a < 12 by omega) hs.1
    refine ⟨0, 5, by decide, (w_count hT hR (fun r1 v1 q => ⟨_, q.1⟩)).imp (fun r1 N1 T1 v1 q => ?_)⟩
    obtain ⟨q1, rfl, rfl, z, v2, ⟨q4, rfl⟩, rfl⟩ := q
    have e : z = ctX (v2 85) s a := by cases q4; rfl
    subst e
    refine h.look (by omega) (show 6 ≤ 20 by decide) q1 (fun w w1 w2 => ?_)
    have hRf := c_X8_count (N := N1) (G := w 84) (w := a) (v := w) hT (by rw [w1]; exact hV.1.RI) (show a < 12 by omega)
    have e2 : ctF (sa w 84 (rs (w 84) 13 0)) a = ctX (v2 85) s a := by
      rw [ctF_eq (s := s) (by rw [sa_eq, rs_ne (by decide), w2]; exact hs2) (show a < 12 by omega), sa_ne (by decide), w1]
    rw [e2] at hRf
    exact hRf
  · refine ⟨1, 8, by decide, (x_count_1 hT (t_X7_count_a hT hx hb)).imp (fun r1 N1 T1 v1 q => ?_)⟩
    obtain ⟨q1, q2, rfl, rfl⟩ := q
    exact h.bad q2 (by omega) (by decide) (by decide) q1 (c_X8_count_b (G := v1 84) (v := v1) hT hx (inB_f (by omega)))
