/-! the orders, one after the other: keep, goBack, undo -/
/-- a step that sets the slot a -/
theorem LI.slot {N N2 a b g : Nat} {T T2 : Ty} {v v2 : Ct} {c c2 : Int} (h : LI N T v c) (hab : (a = 0 ∧ b = 1) ∨ (a = 1 ∧ b = 0)) (hN : N ≤ N2) (hc : c ≤ c2) (hT2 : TT T2) (hd : ∀ g, dsk T g → g + 9 ≤ N → dsk T2 g)
    (hV : DV v2 1 (v2 85) c2) (hH : HS v2 c2) (g66 : v2 66 a = (g : Int)) (g96 : 96 ≤ g) (gd : dsk T2 g) (gN : g + 9 ≤ N2) (g89 : v2 89 a ≠ 0) (gV : DV v2 g (fun z => v2 87 (207 * a + z)) c2)
    (b66 : v2 66 b = v 66 b) (b89 : v2 89 b = v 89 b) (b87 : ∀ z, z < 207 → v2 87 (207 * b + z) = v 87 (207 * b + z)) (hv : ∀ x, 96 ≤ x → x < N → x < g ∨ g + 9 ≤ x → v2 x = v x) (hap : ∀ k : Nat, v 66 b = (k : Int) → k + 9 ≤ N → g + 9 ≤ k ∨ k + 9 ≤ g)
    (hX : TX v2) (h91 : HOK (v2 91)) : LI N2 T2 v2 c2 := by
  obtain ⟨i1, i2, i3, i4, i5, i6, i7, i8, i9⟩ := h
  have sa' : SL N2 T2 v2 c2 a := Or.inr ⟨g89, g, g66, g96, gd, gN, gV⟩
  have ob : SL N T v c b := by
    rcases hab with ⟨-, rfl⟩ | ⟨-, rfl⟩
    · exact i6
    · exact i5
  have sb' : SL N2 T2 v2 c2 b := by
    unfold SL
    rw [b66, b89]
    rcases ob with q | ⟨q1, k, q2, q3, q4, q5, q6⟩
    · exact Or.inl q
    · have q7 := hap k q2 q5
      exact Or.inr ⟨q1, k, q2, q3, hd k q4 q5, by omega, (q6.same (fun j hj => hv _ (by omega) (by omega) (by omega)) (fun z hz => b87 z hz)).mono hc⟩
  have ap : ∀ k : Nat, v2 66 b = (k : Int) → g + 9 ≤ k ∨ k + 9 ≤ g := fun k hk => by
    rw [b66] at hk
    rcases ob with q | ⟨q1, k2, q2, q3, q4, q5, q6⟩
    · have := q.1
      omega
    · exact hap k hk (by omega)
  rcases hab with ⟨rfl, rfl⟩ | ⟨rfl, rfl⟩
  · exact ⟨hT2, by omega, hV, hH, sa', sb', fun p q h1 h2 => by
      have := ap q h2
      omega, hX, h91⟩
  · exact ⟨hT2, by omega, hV, hH, sb', sa', fun p q h1 h2 => by
      have := ap p h1
      omega, hX, h91⟩
theorem cpA_s207 {S R : Nat → Int} {a z : Nat} (hz : z < 207) : cpA S R (207 * a) 0 207 (207 * a + z) = R z := by
  unfold cpA
  rw [if_pos (by omega), show 0 + (207 * a + z - 207 * a) = z by omega]
theorem cpA_b {S R : Nat → Int} {a b z : Nat} (hab : a ≠ b) (hz : z < 207) : cpA S R (207 * a) 0 207 (207 * b + z) = S (207 * b + z) := by
  unfold cpA
  rw [if_neg (by omega)]
theorem cpA_r {S R : Nat → Int} {a z : Nat} (hz : z < 207) : cpA R S 0 (207 * a) 207 z = S (207 * a + z) := by
  unfold cpA
  rw [if_pos (by omega), Nat.sub_zero]
theorem sa_self4 (v : Ct) : v = sa (sa (sa (sa v 89 (v 89)) 87 (v 87)) 84 (v 84)) 85 (v 85) := by
  rw [← sa_self v 89, ← sa_self v 87, ← sa_self v 84, ← sa_self v 85]
theorem w_keepN {N N2 : Nat} {T T2 : Ty} {v : Ct} {D : Nat} {x : Int} {P : Option MV → Ct → Prop} (hT : TT T) (hT2 : TT T2) (hR : RunsP mX7_keep D 9 133 [vR 0, vI x] N T v N2 T2 P) (hP : ∀ r1 v1, P r1 v1 → ∃ z, r1 = some (vI z)) : RunsE mL_keep hL_keep (D + 1) 9 133 [vR 0, vI x, vR 95] N T v (fun r1 N1 T1 v1 => r1 = some (vI 0) ∧ N1 = N2 ∧ T1 = T2 ∧ ∃ z v2, P (some (vI z)) v2 ∧ v1 = sa v2 95 (rs (v2 95) 0 (wr z))) := by
  refine RunsE.of (by decide) (Nat.le_of_ble_eq_true rfl) fun κ C hh1 => ?_
  refine M_aload_n (pc := 0) C dL_keep_0 rfl (by decide) ?_
  refine M_iconst (pc := 1) C dL_keep_1 ?_
  refine M_aload_n (pc := 2) C dL_keep_2 rfl (by decide) ?_
  refine M_iload_n (pc := 3) C dL_keep_3 rfl ?_
  refine M_callV (pc := 4) C (c := 7) hR yw_X7_keep lk_L_45 (by decide) (congrArg Prod.fst (tt_0 hT)) hc_7 rfl dL_keep_4 rfl (Nat.le_of_ble_eq_true rfl) (Nat.le_refl _) ⟨Nat.le_refl _, Nat.le_refl _⟩ (fun r_9 v_9 p_9 => ?_)
  obtain ⟨z, rfl⟩ := hP _ _ p_9
  refine M_wr (pc := 7) ?_
  refine M_i2l (pc := 7) C (wr_i32 _) dL_keep_7 ?_
  refine A_last (pc := 8) C (a := 95) (q := 0) rfl (tt_95 hT2) (by decide) rfl (by decide) (wr_i32 _) dL_keep_8 ?_
  refine M_goto (pc := 9) C (tgt := 15) dL_keep_9 (by decide) ?_
  refine M_iconst (pc := 15) C dL_keep_15 ?_
  refine M.widen (k2 := 9) (n2 := 133) (by decide) (by decide) ?_
  exact M_toE (M_iretP (Post := fun r1 v1 => r1 = some (vI 0) ∧ ∃ z v2, P (some (vI z)) v2 ∧ v1 = sa v2 95 (rs (v2 95) 0 (wr z))) (pc := 16) C rfl dL_keep_16 ⟨rfl, z, v_9, p_9, up_sa _ _ _ _⟩) (fun r v1 h => ⟨h.1, rfl, rfl, h.2⟩)
theorem p_keep {N : Nat} {T : Ty} {v : Ct} {c x : Int} (h : LI N T v c) (hx : i32 x) (hN : N < 1000000000) : ∃ code d mc ms, (d ≤ 20 ∧ mc ≤ 9 ∧ ms ≤ 133) ∧ RunsE mL_keep hL_keep d mc ms [vR 0, vI x, vR 95] N T v (AG N T mX8_keep [vI x] code (c + 1)) := by
  have hT := h.1
  have hV := h.2.2.1
  obtain ⟨s, hs1, hs2⟩ := h.2.2.2.1
  have hX : TX v := h.2.2.2.2.2.2.2.1
  have hO : HOK (v 91) := h.2.2.2.2.2.2.2.2
  by_cases hb : 0 ≤ x ∧ x ≤ 1
  · obtain ⟨a, rfl⟩ : ∃ a : Nat, x = (a : Int) := ⟨x.toNat, by omega⟩
    obtain ⟨b, hab⟩ : ∃ b : Nat, (a = 0 ∧ b = 1) ∨ (a = 1 ∧ b = 0) := by
      rcases (show a = 0 ∨ a = 1 by omega) with q | q
      · exact ⟨1, Or.inl ⟨q, rfl⟩⟩
      · exact ⟨0, Or.inr ⟨q, rfl⟩⟩
    have hsl : SL N T v c a := by
      rcases hab with ⟨rfl, -⟩ | ⟨rfl, -⟩
      · exact h.2.2.2.2.1
      · exact h.2.2.2.2.2.1
    have hbN : ∀ k : Nat, v 66 b = (k : Int) → ∀ g : Nat, v 66 a = (g : Int) → g + 9 ≤ k ∨ k + 9 ≤ g := fun k hk g hg => by
      have hap : AP v := h.2.2.2.2.2.2.1
      rcases hab with ⟨rfl, rfl⟩ | ⟨rfl, rfl⟩
      · exact hap g k hg hk
      · exact (hap k g hk hg).symm
    rcases hsl with ⟨hm, hz⟩ | ⟨hz, g, hg, hg96, hgd, hgN, hgV⟩
    · have hT2 := hT.dT (N := N) h.2.1
      have hR := c_X7_keep_n hT hV (show a < 2 by omega) hm h.2.1 hN
      refine ⟨0, 3, 9, 133, by decide, (w_keepN hT hT2 hR (fun r1 v1 q => ⟨_, q.1⟩)).imp (fun r1 N1 T1 v1 q => ?_)⟩
      obtain ⟨q1, rfl, rfl, z, v2, ⟨q4, q5, q6, q7, q8⟩, q9⟩ := q
      have e : z = filF (v 85) := by cases q4; rfl
      have g1 : ∀ y, y ≠ 95 → v1 y = v2 y := fun y k => by rw [q9, sa_ne k]
      have gg : ∀ y, y ≠ 95 → y ≠ 66 → y < N → v1 y = v y := fun y k1 k2 k3 => (g1 y k1).trans (q8 y k2 k3)
      have h96 := h.2.1
      refine ⟨⟨q1, by decide⟩, hT2, by omega, 2, by decide, ?_⟩
      have hRf := c_X8_keep (N := N + 9) (T := dT T N) (Z := v 89) (S := v 87) (G := v 84) (R := v 85) (x := a) (v := v1) hT2 hV.1.RI (by omega)
      have e4 := sa_self4 v1
      rw [gg 89 (by decide) (by decide) (by omega), gg 87 (by decide) (by decide) (by omega), gg 84 (by decide) (by decide) (by omega), gg 85 (by decide) (by decide) (by omega)] at e4
      rw [← e4] at hRf
      refine RunsP.imp hRf (fun r3 v3 w => ⟨_, w.1, ?_⟩)
      have w2 := w.2
      have o : ∀ y, y ≠ 89 → y ≠ 87 → y ≠ 84 → y ≠ 85 → v3 y = v1 y := fun y k1 k2 k3 k4 => by rw [w2, sa_ne k4, sa_ne k3, sa_ne k2, sa_ne k1]
      have og : ∀ y, y ≠ 89 → y ≠ 87 → y ≠ 84 → y ≠ 85 → y ≠ 95 → y ≠ 66 → y < N → v3 y = v y := fun y k1 k2 k3 k4 k5 k6 k7 => (o y k1 k2 k3 k4).trans (gg y k5 k6 k7)
      have e85 : v3 85 = v 85 := by rw [w2, sa_eq]
      have e84 : v3 84 = rs (v 84) 13 0 := by rw [w2, sa_ne (by decide), sa_eq]
      have e87 : v3 87 = cpA (v 87) (v 85) (207 * a) 0 207 := by rw [w2, sa_ne (by decide), sa_ne (by decide), sa_eq]
      have e89 : v3 89 = rs (v 89) a 1 := by rw [w2, sa_ne (by decide), sa_ne (by decide), sa_ne (by decide), sa_eq]
      have e66 : v3 66 = v2 66 := (o 66 (by decide) (by decide) (by decide) (by decide)).trans (g1 66 (by decide))
      refine ⟨by rw [e84, rs_eq], fun _ => by rw [o 95 (by decide) (by decide) (by decide) (by decide), q9, sa_eq, rs_eq, e], ?_⟩
      refine h.slot hab (g := N) (by omega) (show c ≤ c + 1 by omega) hT2 (fun k k1 k2 => k1.dT k2) ?_ ⟨s, ?_, ?_⟩ (by rw [e66]; exact q6) h96 dsk_dT (by omega) (by rw [e89, rs_eq]; decide) ?_ (by rw [e66]; exact q7 b (by omega)) (by rw [e89, rs_ne (by omega)]) (fun z hz => by rw [e87, cpA_b (by omega) hz]) (fun y k1 k2 _ => og y (by omega) (by omega) (by omega) (by omega) (by omega) (by omega) k2) (fun k _ k2 => Or.inr k2) ?_ ?_
      · rw [e85]
        exact (hV.same (fun k hk => og _ (by omega) (by omega) (by omega) (by omega) (by omega) (by omega) (by omega)) (fun _ _ => rfl)).mono (by omega)
      · rw [og 86 (by decide) (by decide) (by decide) (by decide) (by decide) (by decide) (by omega)]
        exact (hs1.same (fun y h1 h2 => og y (by omega) (by omega) (by omega) (by omega) (by omega) (by omega) (by omega))).mono (by omega)
      · rw [e84, rs_ne (by decide)]
        exact hs2
      · rw [e87]
        exact (q5.same (fun k hk => (o _ (by omega) (by omega) (by omega) (by omega)).trans (g1 _ (by omega))) (fun z hz => cpA_s207 hz)).mono (by omega)
      · exact hX.keep (by rw [og 67 (by decide) (by decide) (by decide) (by decide) (by decide) (by decide) (by omega)]) (by rw [e84, rs_ne (by decide)]) (og 68 (by decide) (by decide) (by decide) (by decide) (by decide) (by decide) (by omega)) (og 90 (by decide) (by decide) (by decide) (by decide) (by decide) (by decide) (by omega))
      · rw [og 91 (by decide) (by decide) (by decide) (by decide) (by decide) (by decide) (by omega)]
        exact hO
    · have hR := c_X7_keep_o (N := N) hT hV (show a < 2 by omega) hg hgd hg96
      refine ⟨0, 2, 1, 6, by decide, (w_keep hT hR (fun r1 v1 q => ⟨_, q.1⟩)).imp (fun r1 N1 T1 v1 q => ?_)⟩
      obtain ⟨q1, rfl, rfl, z, v2, ⟨q4, q5⟩, q9⟩ := q
      have e : z = filF (v 85) := by cases q4; rfl
      have g1 : ∀ y, y ≠ 95 → v1 y = v2 y := fun y k => by rw [q9, sa_ne k]
      have gg : ∀ y, y ≠ 95 → y < g ∨ g + 9 ≤ y → v1 y = v y := fun y k1 k2 => (g1 y k1).trans (by funext j; rw [q5, cpd_o k2])
      refine ⟨⟨q1, by decide⟩, hT, Nat.le_refl _, 2, by decide, ?_⟩
      have hRf := c_X8_keep (N := N1) (T := T1) (Z := v 89) (S := v 87) (G := v 84) (R := v 85) (x := a) (v := v1) hT hV.1.RI (by omega)
      have e4 := sa_self4 v1
      rw [gg 89 (by decide) (by omega), gg 87 (by decide) (by omega), gg 84 (by decide) (by omega), gg 85 (by decide) (by omega)] at e4
      rw [← e4] at hRf
      refine RunsP.imp hRf (fun r3 v3 w => ⟨_, w.1, ?_⟩)
      have w2 := w.2
      have o : ∀ y, y ≠ 89 → y ≠ 87 → y ≠ 84 → y ≠ 85 → v3 y = v1 y := fun y k1 k2 k3 k4 => by rw [w2, sa_ne k4, sa_ne k3, sa_ne k2, sa_ne k1]
      have og : ∀ y, y ≠ 89 → y ≠ 87 → y ≠ 84 → y ≠ 85 → y ≠ 95 → y < g ∨ g + 9 ≤ y → v3 y = v y := fun y k1 k2 k3 k4 k5 k6 => (o y k1 k2 k3 k4).trans (gg y k5 k6)
      have e85 : v3 85 = v 85 := by rw [w2, sa_eq]
      have e84 : v3 84 = rs (v 84) 13 0 := by rw [w2, sa_ne (by decide), sa_eq]
      have e87 : v3 87 = cpA (v 87) (v 85) (207 * a) 0 207 := by rw [w2, sa_ne (by decide), sa_ne (by decide), sa_eq]
      have e89 : v3 89 = rs (v 89) a 1 := by rw [w2, sa_ne (by decide), sa_ne (by decide), sa_ne (by decide), sa_eq]
      have e66 : v3 66 = v 66 := og 66 (by decide) (by decide) (by decide) (by decide) (by decide) (by omega)
      refine ⟨by rw [e84, rs_eq], fun _ => by rw [o 95 (by decide) (by decide) (by decide) (by decide), q9, sa_eq, rs_eq, e], ?_⟩
      refine h.slot hab (g := g) (Nat.le_refl _) (show c ≤ c + 1 by omega) hT (fun k k1 k2 => k1) ?_ ⟨s, ?_, ?_⟩ (by rw [e66]; exact hg) hg96 hgd hgN (by rw [e89, rs_eq]; decide) ?_ (by rw [e66]) (by rw [e89, rs_ne (by omega)]) (fun z hz => by rw [e87, cpA_b (by omega) hz]) (fun y k1 k2 k3 => og y (by omega) (by omega) (by omega) (by omega) (by omega) k3) (fun k k1 _ => hbN k k1 g hg) ?_ ?_
      · rw [e85]
        exact (hV.same (fun k hk => og _ (by omega) (by omega) (by omega) (by omega) (by omega) (by omega)) (fun _ _ => rfl)).mono (by omega)
      · rw [og 86 (by decide) (by decide) (by decide) (by decide) (by decide) (by omega)]
        exact (hs1.same (fun y h1 h2 => og y (by omega) (by omega) (by omega) (by omega) (by omega) (by omega))).mono (by omega)
      · rw [e84, rs_ne (by decide)]
        exact hs2
      · rw [e87]
        exact ((hV.cpd (a := g) (fun _ _ => rfl)).same (fun k hk => (o _ (by omega) (by omega) (by omega) (by omega)).trans ((g1 _ (by omega)).trans (by rw [q5]))) (fun z hz => cpA_s207 hz)).mono (by omega)
      · exact hX.keep (by rw [og 67 (by decide) (by decide) (by decide) (by decide) (by decide) (by omega)]) (by rw [e84, rs_ne (by decide)]) (og 68 (by decide) (by decide) (by decide) (by decide) (by decide) (by omega)) (og 90 (by decide) (by decide) (by decide) (by decide) (by decide) (by omega))
      · rw [og 91 (by decide) (by decide) (by decide) (by decide) (by decide) (by omega)]
        exact hO
  · refine ⟨1, 8, 1, 6, by decide, (x_keep_1 hT (t_X7_keep_a hT hx hb)).imp (fun r1 N1 T1 v1 q => ?_)⟩
    obtain ⟨q1, q2, rfl, rfl⟩ := q
    exact h.bad q2 (by omega) (by decide) (by decide) q1 (c_X8_keep_b (G := v1 84) (v := v1) hT hx (inB_f (by omega)))
theorem p_goBack {N : Nat} {T : Ty} {v : Ct} {c x : Int} (h : LI N T v c) (hx : i32 x) (hc : c < 900000) : ∃ code d, d ≤ 20 ∧ RunsE mL_goBack hL_goBack d 1 6 [vR 0, vI x, vR 95] N T v (AG N T mX8_goBack [vI x] code (c + 1)) := by
  have hT := h.1
  have hV := h.2.2.1
  obtain ⟨s, hs, hs2⟩ := h.2.2.2.1
  by_cases hb : 0 ≤ x ∧ x ≤ 1
  · obtain ⟨a, rfl⟩ : ∃ a : Nat, x = (a : Int) := ⟨x.toNat, by omega⟩
    have hsl : SL N T v c a := by
      rcases (show a = 0 ∨ a = 1 by omega) with rfl | rfl
      · exact h.2.2.2.2.1
      · exact h.2.2.2.2.2.1
    rcases hsl with ⟨hm, hz⟩ | ⟨hz, g, hg, hg96, hgd, hgN, hgV⟩
    · refine ⟨2, 7, by decide, (x_goBack_2 hT (t_X7_goBack_s hT (show a < 2 by omega) hm)).imp (fun r1 N1 T1 v1 q => ?_)⟩
      obtain ⟨q1, q2, rfl, rfl⟩ := q
      exact h.bad q2 (by omega) (by decide) (by decide) q1 (c_X8_goBack_b2 (G := v1 84) (v := v1) hT (show a < 2 by omega) hz)
    · have hgV2 : DV v g (cpA (v 85) (v 87) 0 (207 * a) 207) c := hgV.same (fun _ _ => rfl) (fun j hj => cpA_r hj)
      have hR := c_X7_goBack (N := N) hT hV hs (by omega) (show a < 2 by omega) hg hgd hg96 hgV2
      refine ⟨0, 3, by decide, (w_goBack hT hR (fun r1 v1 q => ⟨_, q.1⟩)).imp (fun r1 N1 T1 v1 q => ?_)⟩
      obtain ⟨q1, rfl, rfl, z, v2, ⟨q4, q5, q6, q7⟩, rfl⟩ := q
      have e : z = filF (cpA (v 85) (v 87) 0 (207 * a) 207) := by cases q4; rfl
      subst e
      refine ⟨⟨q1, by decide⟩, hT, Nat.le_refl _, 2, by decide, ?_⟩
      have gq : ∀ b, 84 ≤ b → b ≠ 95 → sa v2 95 (rs (v2 95) 0 (wr (filF (cpA (v 85) (v 87) 0 (207 * a) 207)))) b = v b := fun b h1 h2 => (sa_ne h2 _).trans (q7 b (Or.inr h1))
      have hRf := c_X8_goBack (N := N1) (P := v 86) (G := v 84) (F := v 94) (O := v 93) (A := v 88) (R := v 85) (s := s) (x := a) (v := sa v2 95 (rs (v2 95) 0 (wr (filF (cpA (v 85) (v 87) 0 (207 * a) 207))))) hT hs2 hs.2.1 hV.1.RI (by omega) (by rw [gq 89 (by decide) (by decide)]; exact hz) (by rw [gq 87 (by decide) (by decide)]; exact hgV2.1.RI)
      rw [gq 87 (by decide) (by decide)] at hRf
      have e6 := sa_self6 (sa v2 95 (rs (v2 95) 0 (wr (filF (cpA (v 85) (v 87) 0 (207 * a) 207)))))
      rw [gq 86 (by decide) (by decide), gq 84 (by decide) (by decide), gq 94 (by decide) (by decide), gq 93 (by decide) (by decide), gq 88 (by decide) (by decide), gq 85 (by decide) (by decide)] at e6
      rw [← e6] at hRf
      refine RunsP.imp hRf (fun r3 v3 w => ⟨_, w.1, ?_⟩)
      obtain ⟨k1, k2, k3⟩ := LI.both h hs hs2 (show c ≤ c + 1 by omega) (q5.mono (by omega)) (q6.mono (by omega)) q7 w.2
      exact ⟨k1, fun _ => k2, k3⟩
  · refine ⟨1, 8, by decide, (x_goBack_1 hT (t_X7_goBack_a hT hx hb)).imp (fun r1 N1 T1 v1 q => ?_)⟩
    obtain ⟨q1, q2, rfl, rfl⟩ := q
    exact h.bad q2 (by omega) (by decide) (by decide) q1 (c_X8_goBack_b1 (G := v1 84) (v := v1) hT hx (inB_f (by omega)))
theorem LI.both2 {N : Nat} {T : Ty} {v v2 v3 : Ct} {c c2 : Int} {z : Int} {s2 : Nat} {P' R' A' F' O' : Nat → Int} (h : LI N T v c) (hc : c ≤ c2) (hV : DV v2 1 R' c2) (hH : HVr v2 P' s2 c2) (hf : fr v v2)
    (h3 : v3 = sa (sa (sa (sa (sa (sa (sa v2 95 (rs (v2 95) 0 z)) 86 (P')) 84 (rs (rs (v 84) 13 0) 5 ((s2 : Nat) : Int))) 94 F') 93 O') 88 A') 85 R') : v3 84 13 = 0 ∧ v3 95 0 = z ∧ LI N T v3 c2 := by
  have o : ∀ a, a ≠ 84 → a ≠ 85 → a ≠ 86 → a ≠ 88 → a ≠ 93 → a ≠ 94 → a ≠ 95 → v3 a = v2 a := fun a q1 q2 q3 q4 q5 q6 q7 => by
    rw [h3, sa_ne q2, sa_ne q4, sa_ne q5, sa_ne q6, sa_ne q1, sa_ne q3, sa_ne q7]
  have e85 : v3 85 = R' := by rw [h3, sa_eq]
  have e86 : v3 86 = P' := by rw [h3, sa_ne (by decide), sa_ne (by decide), sa_ne (by decide), sa_ne (by decide), sa_ne (by decide), sa_eq]
  have e84 : v3 84 = rs (rs (v 84) 13 0) 5 ((s2 : Nat) : Int) := by rw [h3, sa_ne (by decide), sa_ne (by decide), sa_ne (by decide), sa_ne (by decide), sa_eq]
  have e95 : v3 95 = rs (v2 95) 0 z := by rw [h3, sa_ne (by decide), sa_ne (by decide), sa_ne (by decide), sa_ne (by decide), sa_ne (by decide), sa_ne (by decide), sa_eq]
  refine ⟨by rw [e84, rs_ne (by decide), rs_eq], by rw [e95, rs_eq], ?_⟩
  refine h.step (Nat.le_refl _) hc ?_ ⟨s2, ?_, by rw [e84, rs_eq]⟩ ?_ ?_ ?_ (fun a h1 _ => ?_) ?_ (by rw [e84, rs_ne (by decide), rs_ne (by decide)]) ?_ ?_ ?_
  · rw [e85]
    exact hV.same (fun k hk => o _ (by omega) (by omega) (by omega) (by omega) (by omega) (by omega) (by omega)) (fun _ _ => rfl)
  · rw [e86]
    exact hH.same (fun a h1 h2 => o a (by omega) (by omega) (by omega) (by omega) (by omega) (by omega) (by omega))
  · rw [o 66 (by decide) (by decide) (by decide) (by decide) (by decide) (by decide) (by decide)]; exact hf 66 (by omega)
  · rw [o 89 (by decide) (by decide) (by decide) (by decide) (by decide) (by decide) (by decide)]; exact hf 89 (by omega)
  · rw [o 87 (by decide) (by decide) (by decide) (by decide) (by decide) (by decide) (by decide)]; exact hf 87 (by omega)
  · rw [o a (by omega) (by omega) (by omega) (by omega) (by omega) (by omega) (by omega)]; exact hf a (by omega)
  · rw [o 67 (by decide) (by decide) (by decide) (by decide) (by decide) (by decide) (by decide), hf 67 (by omega)]
  · rw [o 68 (by decide) (by decide) (by decide) (by decide) (by decide) (by decide) (by decide)]; exact hf 68 (by omega)
  · rw [o 90 (by decide) (by decide) (by decide) (by decide) (by decide) (by decide) (by decide)]; exact hf 90 (by omega)
  · rw [o 91 (by decide) (by decide) (by decide) (by decide) (by decide) (by decide) (by decide), hf 91 (by omega)]; exact h.2.2.2.2.2.2.2.2
theorem p_undo {N : Nat} {T : Ty} {v : Ct} {c : Int} (h : LI N T v c) (hc : c < 900000) : ∃ code d, d ≤ 20 ∧ RunsE mL_undo hL_undo d 1 6 [vR 0, vR 95] N T v (AG N T mX8_undo [] code (c + 1)) := by
  have hT := h.1
  have hV := h.2.2.1
  obtain ⟨s, hs, hs2⟩ := h.2.2.2.1
  cases s with
  | zero =>
    refine ⟨1, 7, by decide, (x_undo_1 hT (t_X7_undo_s hT hs.1)).imp (fun r1 N1 T1 v1 q => ?_)⟩
    obtain ⟨q1, q2, rfl, rfl⟩ := q
    exact h.bad q2 (by omega) (by decide) (by decide) q1 (c_X8_undo_b (G := v1 84) (v := v1) hT hs2)
  | succ s =>
    have hR := c_X7_undo (N := N) hT hs
    refine ⟨0, 3, by decide, (w_undo hT hR (fun r1 v1 q => ⟨_, q.1⟩)).imp (fun r1 N1 T1 v1 q => ?_)⟩
    obtain ⟨q1, rfl, rfl, z, v2, ⟨q4, q5, q6, q7⟩, rfl⟩ := q
    have e : z = ((s : Nat) : Int) := by cases q4; rfl
    subst e
    refine ⟨⟨q1, by decide⟩, hT, Nat.le_refl _, 0, by decide, ?_⟩
    have hs7 := hs.2.1
    have hRf := c_X8_undo (N := N1) (P := v 86) (G := v 84) (F := v 94) (O := v 93) (A := v 88) (R := v 85) (s := s) (v := sa v2 95 (rs (v2 95) 0 (wr ((s : Nat) : Int)))) hT hs2 (by omega)
    have g : ∀ b, 84 ≤ b → b ≠ 95 → sa v2 95 (rs (v2 95) 0 (wr ((s : Nat) : Int))) b = v b := fun b h1 h2 => (sa_ne h2 _).trans (q7 b (Or.inr h1))
    have e6 := sa_self6 (sa v2 95 (rs (v2 95) 0 (wr ((s : Nat) : Int))))
    rw [g 86 (by decide) (by decide), g 84 (by decide) (by decide), g 94 (by decide) (by decide), g 93 (by decide) (by decide), g 88 (by decide) (by decide), g 85 (by decide) (by decide)] at e6
    rw [← e6] at hRf
    refine RunsP.imp hRf (fun r3 v3 w => ⟨_, w.1, ?_⟩)
    have hV2 : DV v2 1 (cpA (v 85) (v 86) 0 (207 * s) 207) c := q5.same (fun _ _ => rfl) (fun j hj => cpA_r hj)
    obtain ⟨k1, k2, k3⟩ := LI.both2 h (show c ≤ c + 1 by omega) (hV2.mono (by omega)) (q6.mono (by omega)) q7 w.2
    exact ⟨k1, fun _ => k2, k3⟩
