/-! the looks on both sides: ifPlaced, blockOf, fileOf, ifGrown -/
theorem p_ifPlaced {N : Nat} {T : Ty} {v : Ct} {c x : Int} (h : LI N T v c) (hx : i32 x) : ∃ code d, d ≤ 20 ∧ RunsE mL_ifPlaced hL_ifPlaced d 1 6 [vR 0, vI x, vR 95] N T v (AG N T mX8_ifPlaced [vI x] code (c + 1)) := by
  have hT := h.1
  have hV := h.2.2.1
  have hH : DR (v 2) (v 3) (v 4) (v 5) (v 6) (v 7) (v 8) (v 9) (v 85) := hV.1
  by_cases hb : 1 ≤ x ∧ x ≤ 15
  · have hR := c_X7_ifPlaced (N := N) hT hV hb
    refine ⟨0, 4, by decide, (w_ifPlaced hT hR (fun r1 v1 q => ⟨_, q.1⟩)).imp (fun r1 N1 T1 v1 q => ?_)⟩
    obtain ⟨q1, rfl, rfl, z, v2, ⟨q4, rfl⟩, rfl⟩ := q
    have e : z = plcF (v2 85) x := by cases q4; rfl
    subst e
    refine h.look (by omega) (show 7 ≤ 20 by decide) q1 (fun w w1 w2 => ?_)
    have hRf := c_X8_ifPlaced (N := N1) (G := w 84) (v := w) hT (by rw [w1]; exact hV.1.RI) hb
    rw [w1] at hRf
    exact hRf
  · refine ⟨1, 8, by decide, (x_ifPlaced_1 hT (t_X7_ifPlaced_a hT hx hb)).imp (fun r1 N1 T1 v1 q => ?_)⟩
    obtain ⟨q1, q2, rfl, rfl⟩ := q
    exact h.bad q2 (by omega) (by decide) (by decide) q1 (c_X8_ifPlaced_b (G := v1 84) (v := v1) hT hx (inB_f (by omega)))
theorem p_blockOf {N : Nat} {T : Ty} {v : Ct} {c x y : Int} (h : LI N T v c) (hx : i32 x) (hy : i32 y) : ∃ code d, d ≤ 20 ∧ RunsE mL_blockOf hL_blockOf d 1 6 [vR 0, vI x, vI y, vR 95] N T v (AG N T mX8_blockOf [vI x, vI y] code (c + 1)) := by
  have hT := h.1
  have hV := h.2.2.1
  have hH : DR (v 2) (v 3) (v 4) (v 5) (v 6) (v 7) (v 8) (v 9) (v 85) := hV.1
  by_cases hb : 0 ≤ x ∧ x < 24
  · obtain ⟨a, rfl⟩ : ∃ a : Nat, x = (a : Int) := ⟨x.toNat, by omega⟩
    by_cases hy2 : 0 ≤ y ∧ y ≤ 4
    · obtain ⟨b, rfl⟩ : ∃ b : Nat, y = (b : Int) := ⟨y.toNat, by omega⟩
      have hR := c_X7_blockOf (N := N) hT hV (show a < 24 by omega) (show b < 5 by omega)
      refine ⟨0, 5, by decide, (w_blockOf hT hR (fun r1 v1 q => ⟨_, q.1⟩)).imp (fun r1 N1 T1 v1 q => ?_)⟩
      obtain ⟨q1, rfl, rfl, z, v2, ⟨q4, rfl⟩, rfl⟩ := q
      have e : z = biF (v2 85) a b := by cases q4; rfl
      subst e
      refine h.look (by omega) (show 7 ≤ 20 by decide) q1 (fun w w1 w2 => ?_)
      have hRf := c_X8_blockOf (N := N1) (G := w 84) (v := w) hT (by rw [w1]; exact hV.1.RI) (show a < 24 by omega) (show b < 5 by omega)
      rw [w1] at hRf
      exact hRf
    · refine ⟨2, 8, by decide, (x_blockOf_2 hT (t_X7_blockOf_a hT (show a < 24 by omega) hy hy2)).imp (fun r1 N1 T1 v1 q => ?_)⟩
      obtain ⟨q1, q2, rfl, rfl⟩ := q
      exact h.bad q2 (by omega) (by decide) (by decide) q1 (c_X8_blockOf_b2 (G := v1 84) (v := v1) hT (show a < 24 by omega) hy (inB_f (by omega)))
  · refine ⟨1, 8, by decide, (x_blockOf_1 hT (t_X7_blockOf_b hT hx hb)).imp (fun r1 N1 T1 v1 q => ?_)⟩
    obtain ⟨q1, q2, rfl, rfl⟩ := q
    exact h.bad q2 (by omega) (by decide) (by decide) q1 (c_X8_blockOf_b1 (G := v1 84) (v := v1) hT hx (inB_f (by omega)))
theorem p_fileOf {N : Nat} {T : Ty} {v : Ct} {c x y : Int} (h : LI N T v c) (hx : i32 x) (hy : i32 y) : ∃ code d, d ≤ 20 ∧ RunsE mL_fileOf hL_fileOf d 1 6 [vR 0, vI x, vI y, vR 95] N T v (AG N T mX8_fileOf [vI x, vI y] code (c + 1)) := by
  have hT := h.1
  have hV := h.2.2.1
  have hH : DR (v 2) (v 3) (v 4) (v 5) (v 6) (v 7) (v 8) (v 9) (v 85) := hV.1
  cases hex : exF (v 5) x with
  | false =>
    refine ⟨1, 8, by decide, (x_fileOf_1 hT (t_X7_fileOf_f hT hx hex)).imp (fun r1 N1 T1 v1 q => ?_)⟩
    obtain ⟨q1, q2, rfl, rfl⟩ := q
    exact h.bad q2 (by omega) (by decide) (by decide) q1 (c_X8_fileOf_b1 (G := v1 84) (v := v1) hT hx (by rw [h.isF x]; exact hex))
  | true =>
    have hq := hex
    rw [hH.exf x] at hq
    obtain ⟨f0, f9, hfi⟩ := of_decide_eq_true hq
    obtain ⟨f, rfl⟩ : ∃ f : Nat, x = (f : Int) := ⟨x.toNat, by omega⟩
    rw [Int.toNat_natCast] at hfi
    by_cases hb : 0 ≤ y ∧ y ≤ 6
    · obtain ⟨a, rfl⟩ : ∃ a : Nat, y = (a : Int) := ⟨y.toNat, by omega⟩
      have hR := c_X7_fileOf (N := N) hT hV (show f < 10 by omega) hfi (show a < 7 by omega)
      refine ⟨0, 3, by decide, (w_fileOf hT hR (fun r1 v1 q => ⟨_, q.1⟩)).imp (fun r1 N1 T1 v1 q => ?_)⟩
      obtain ⟨q1, rfl, rfl, z, v2, ⟨q4, rfl⟩, rfl⟩ := q
      have e : z = prF (v2 85) f a := by cases q4; rfl
      subst e
      refine h.look (by omega) (show 3 ≤ 20 by decide) q1 (fun w w1 w2 => ?_)
      have hRf := c_X8_fileOf (N := N1) (G := w 84) (v := w) hT (by rw [w1]; exact hV.1.RI) (show f < 10 by omega) (by rw [w1]; exact hfi) (show a < 7 by omega)
      rw [w1] at hRf
      exact hRf
    · refine ⟨2, 8, by decide, (x_fileOf_2 hT (t_X7_fileOf_a hT (show f < 10 by omega) (hH.zf (by omega) hfi) hy hb)).imp (fun r1 N1 T1 v1 q => ?_)⟩
      obtain ⟨q1, q2, rfl, rfl⟩ := q
      exact h.bad q2 (by omega) (by decide) (by decide) q1 (c_X8_fileOf_b2 (G := v1 84) (v := v1) hT (show f < 10 by omega) hfi hy (inB_f (by omega)))
