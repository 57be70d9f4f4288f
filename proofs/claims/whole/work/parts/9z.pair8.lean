/-! the looks on both sides: place -/
theorem p_place {N : Nat} {T : Ty} {v : Ct} {c x y : Int} (h : LI N T v c) (hx : i32 x) (hy : i32 y) : ∃ code d, d ≤ 20 ∧ RunsE mL_place hL_place d 1 6 [vR 0, vI x, vI y, vR 95] N T v (AG N T mX8_place [vI x, vI y] code (c + 1)) := by
  have hT := h.1
  have hV := h.2.2.1
  have hH : DR (v 2) (v 3) (v 4) (v 5) (v 6) (v 7) (v 8) (v 9) (v 85) := hV.1
  cases hex : exF (v 5) x with
  | false =>
    refine ⟨1, 8, by decide, (x_place_1 hT (t_X7_place_f hT hx hex)).imp (fun r1 N1 T1 v1 q => ?_)⟩
    obtain ⟨q1, q2, rfl, rfl⟩ := q
    exact h.bad q2 (by omega) (by decide) (by decide) q1 (c_X8_place_b1 (G := v1 84) (v := v1) hT hx (by rw [h.isF x]; exact hex))
  | true =>
    have hq := hex
    rw [hH.exf x] at hq
    obtain ⟨f0, f9, hfi⟩ := of_decide_eq_true hq
    obtain ⟨f, rfl⟩ : ∃ f : Nat, x = (f : Int) := ⟨x.toNat, by omega⟩
    rw [Int.toNat_natCast] at hfi
    have hsz := hH.sz (f := f) (by omega) hfi
    by_cases hb : 0 ≤ y ∧ y < v 5 f
    · obtain ⟨a, rfl⟩ : ∃ a : Nat, y = (a : Int) := ⟨y.toNat, by omega⟩
      have hR := c_X7_place (N := N) hT hV (show f < 10 by omega) hfi (show (a : Int) < ro (v 85) f 1 by omega)
      refine ⟨0, 4, by decide, (w_place hT hR (fun r1 v1 q => ⟨_, q.1⟩)).imp (fun r1 N1 T1 v1 q => ?_)⟩
      obtain ⟨q1, rfl, rfl, z, v2, ⟨q4, rfl⟩, rfl⟩ := q
      have e : z = plO (v2 85) f a := by cases q4; rfl
      subst e
      refine h.look (by omega) (show 3 ≤ 20 by decide) q1 (fun w w1 w2 => ?_)
      have hRf := c_X8_place (N := N1) (G := w 84) (v := w) hT (by rw [w1]; exact hV.1.RI) (show f < 10 by omega) (by rw [w1]; exact hfi) (show (a : Int) < ro (w 85) f 1 by rw [w1]; omega)
      rw [w1] at hRf
      exact hRf
    · refine ⟨1, 7, by decide, (x_place_1 hT (t_X7_place_c hT (show f < 10 by omega) (hH.zf (by omega) hfi) hy hb)).imp (fun r1 N1 T1 v1 q => ?_)⟩
      obtain ⟨q1, q2, rfl, rfl⟩ := q
      exact h.bad q2 (by omega) (by decide) (by decide) q1 (c_X8_place_b2 (G := v1 84) (v := v1) hT hV.1.RI (show f < 10 by omega) hfi hy (inB_f (by omega)))
