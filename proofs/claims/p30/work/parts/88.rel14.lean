def hst (g : Nat) : Prop := g = 12 ∨ g = 21 ∨ g = 30 ∨ g = 39 ∨ g = 48 ∨ g = 57
theorem dsk_h {T : Ty} (h : TT T) {g : Nat} (hg : hst g) : dsk T g := by
  rcases hg with rfl | rfl | rfl | rfl | rfl | rfl
  · exact ⟨tt_12 h, tt_13 h, tt_14 h, tt_15 h, tt_16 h, tt_17 h, tt_18 h, tt_19 h, tt_20 h⟩
  · exact ⟨tt_21 h, tt_22 h, tt_23 h, tt_24 h, tt_25 h, tt_26 h, tt_27 h, tt_28 h, tt_29 h⟩
  · exact ⟨tt_30 h, tt_31 h, tt_32 h, tt_33 h, tt_34 h, tt_35 h, tt_36 h, tt_37 h, tt_38 h⟩
  · exact ⟨tt_39 h, tt_40 h, tt_41 h, tt_42 h, tt_43 h, tt_44 h, tt_45 h, tt_46 h, tt_47 h⟩
  · exact ⟨tt_48 h, tt_49 h, tt_50 h, tt_51 h, tt_52 h, tt_53 h, tt_54 h, tt_55 h, tt_56 h⟩
  · exact ⟨tt_57 h, tt_58 h, tt_59 h, tt_60 h, tt_61 h, tt_62 h, tt_63 h, tt_64 h, tt_65 h⟩
theorem CNT.congr {G G2 P P2 r r2 : Nat → Int} {c : Int} (h : CNT G P r c) (hG : ∀ q, 8 ≤ q → q ≤ 10 → G2 q = G q) (hP : ∀ f, f < 10 → P2 f = P f) (hr : ∀ j, j < 3 → r2 j = r j) : CNT G2 P2 r2 c := by
  obtain ⟨h1, h2, h3, h4, h5, h6, h7⟩ := h
  have g8 := hG 8 (by decide) (by decide)
  have g9 := hG 9 (by decide) (by decide)
  have g10 := hG 10 (by decide) (by decide)
  have e0 := hr 0 (by decide)
  have e1 := hr 1 (by decide)
  have e2 := hr 2 (by decide)
  exact ⟨by omega, by omega, by omega, by omega, by omega, by omega, fun f hf => by rw [hP f hf]; exact h7 f hf⟩
/-- a disk's cells hold the same -/
theorem DV.copy {v v1 : Ct} {a b : Nat} {r r2 : Nat → Int} {c : Int} (h : DV v b r c) (h0 : ∀ q, 8 ≤ q → q ≤ 10 → v1 a q = v b q) (h1 : ∀ k q, 1 ≤ k → k ≤ 3 → q < 24 → v1 (a + k) q = v (b + k) q) (h2 : ∀ k q, 4 ≤ k → k ≤ 8 → q < 10 → v1 (a + k) q = v (b + k) q) (hr : ∀ j, j < 207 → r2 j = r j) : DV v1 a r2 c :=
  ⟨h.1.congr (fun q hq => ⟨h1 1 q (by decide) (by decide) hq, h1 2 q (by decide) (by decide) hq, h1 3 q (by decide) (by decide) hq⟩) (fun q hq => ⟨h2 4 q (by decide) (by decide) hq, h2 5 q (by decide) (by decide) hq, h2 6 q (by decide) (by decide) hq, h2 7 q (by decide) (by decide) hq, h2 8 q (by decide) (by decide) hq⟩) hr,
    h.2.congr h0 (fun f hf => h2 8 f (by decide) (by decide) hf) (fun j hj => hr j (by omega))⟩
theorem DV.cpd {v : Ct} {a b : Nat} {r r2 : Nat → Int} {c : Int} (h : DV v b r c) (hr : ∀ j, j < 207 → r2 j = r j) : DV (cpd v a b 24 10 true) a r2 c := by
  refine h.copy (fun q h1 h2 => ?_) (fun k q h1 h2 h3 => ?_) (fun k q h1 h2 h3 => ?_) hr
  · unfold CTailBlocksLaw_law_r6291_d6fea3.cpd
    rw [if_neg (by omega), if_pos ⟨rfl, rfl, h1, h2⟩]
  · unfold CTailBlocksLaw_law_r6291_d6fea3.cpd
    rw [if_pos (by omega), show b + (a + k - a) = b + k by omega]
  · unfold CTailBlocksLaw_law_r6291_d6fea3.cpd
    rw [if_pos (by omega), show b + (a + k - a) = b + k by omega]
theorem DV.same {v v1 : Ct} {a : Nat} {r r2 : Nat → Int} {c : Int} (h : DV v a r c) (he : ∀ k, k ≤ 8 → v1 (a + k) = v (a + k)) (hr : ∀ j, j < 207 → r2 j = r j) : DV v1 a r2 c :=
  h.copy (fun q _ _ => congrFun (he 0 (by decide)) q) (fun k q _ h2 _ => congrFun (he k (by omega)) q) (fun k q _ h2 _ => congrFun (he k h2) q) hr
/-- the saved states are the reference's past -/
def HVr (v : Ct) (P : Nat → Int) (s : Nat) (c : Int) : Prop := v 10 1 = (s : Int) ∧ s ≤ 6 ∧ (∀ q, q < 6 → ∃ g : Nat, hst g ∧ v 11 q = (g : Int)) ∧ (∀ p q, p < 6 → q < 6 → v 11 p = v 11 q → p = q) ∧ ∀ j, j < s → ∀ g : Nat, v 11 j = (g : Int) → DV v g (fun x => P (207 * j + x)) c
theorem HVr.mono {v : Ct} {P : Nat → Int} {s : Nat} {c c2 : Int} (h : HVr v P s c) (hc : c ≤ c2) : HVr v P s c2 := ⟨h.1, h.2.1, h.2.2.1, h.2.2.2.1, fun j hj g hg => (h.2.2.2.2 j hj g hg).mono hc⟩
theorem HVr.same {v v1 : Ct} {P : Nat → Int} {s : Nat} {c : Int} (h : HVr v P s c) (he : ∀ a, 10 ≤ a → a < 66 → v1 a = v a) : HVr v1 P s c := by
  have e10 := he 10 (by decide) (by decide)
  have e11 := he 11 (by decide) (by decide)
  refine ⟨by rw [e10]; exact h.1, h.2.1, by rw [e11]; exact h.2.2.1, by rw [e11]; exact h.2.2.2.1, fun j hj g hg => ?_⟩
  rw [e11] at hg
  have hs := h.2.1
  obtain ⟨g2, hg2, hq⟩ := h.2.2.1 j (by omega)
  have : g2 = g := by omega
  subst this
  refine (h.2.2.2.2 j hj g2 hg).same (fun k hk => he _ ?_ ?_) (fun _ _ => rfl)
  · unfold hst at hg2; omega
  · unfold hst at hg2; omega
section HIS
variable {N : Nat} {T : Ty} {v : Ct} {r P : Nat → Int} {c : Int} {s : Nat}
theorem hst_apart {g h : Nat} (hg : hst g) (hh : hst h) (hne : g ≠ h) : g + 9 ≤ h ∨ h + 9 ≤ g := by
  unfold hst at hg hh
  omega
theorem c_X2_storeR (hT : TT T) (hH : HVr v P s c) (hD : DV v 1 r c) : RunsP mX2_store 1 0 0 [vR 10, vR 1] N T v N T (fun r1 v1 => r1 = none ∧ HVr v1 (svP P r s) (svN s) c ∧ ∀ a, (a < 10 ∨ 66 ≤ a) → v1 a = v a) := by
  obtain ⟨h1, h2, h3, h4, h5⟩ := hH
  by_cases h6 : s = 6
  · subst h6
    obtain ⟨g, hg, hq⟩ := h3 0 (by decide)
    have h := c_X2_store_6 (N := N) (v := v) (Q := v 11) (G := v 10) (g := g) hT (fun q hq2 => by
      obtain ⟨g2, hg2, hq3⟩ := h3 q hq2
      exact ⟨g2, hq3, (dsk_h hT hg2).1⟩) h1 hq (dsk_h hT hg) (by unfold hst at hg; omega)
    rw [← sa_self v 11, ← sa_self v 10] at h
    refine RunsP.imp h ?_
    rintro r1 v1 ⟨rfl, rfl⟩
    have hlo : 12 ≤ g ∧ g ≤ 57 := by unfold hst at hg; omega
    have e11 : ∀ q, up (cpd (sa (sa v 11 (rs (rtN (v 11) 6) 5 (v 11 0))) 10 (rs (v 10) 1 5)) g 1 24 10 true) 10 1 6 11 q = if q = 5 then v 11 0 else if q + 1 < 6 then v 11 (q + 1) else v 11 q := fun q => by
      rw [up_ne (by decide), cpd_o (by omega), sa_ne (by decide), sa_eq]
      rfl
    have eo : ∀ a, a ≠ 10 → a ≠ 11 → (a < g ∨ g + 9 ≤ a) → up (cpd (sa (sa v 11 (rs (rtN (v 11) 6) 5 (v 11 0))) 10 (rs (v 10) 1 5)) g 1 24 10 true) 10 1 6 a = v a := fun a h7 h8 h9 => by
      funext q
      rw [up_ne h7, cpd_o h9, sa_ne h7, sa_ne h8]
    refine ⟨rfl, ⟨?_, by decide, fun q hq2 => ?_, fun p q hp hq2 he => ?_, fun j hj g2 hg2 => ?_⟩, fun a ha => eo a (by omega) (by omega) (by omega)⟩
    · rw [up_eq]; rfl
    · rw [e11]
      by_cases e : q = 5
      · rw [if_pos e]; exact ⟨g, hg, hq⟩
      · rw [if_neg e, if_pos (by omega)]; exact h3 (q + 1) (by omega)
    · rw [e11, e11] at he
      by_cases e : p = 5
      · rw [if_pos e] at he
        by_cases e2 : q = 5
        · omega
        · rw [if_neg e2, if_pos (by omega)] at he
          have := h4 0 (q + 1) (by decide) (by omega) he
          omega
      · rw [if_neg e, if_pos (by omega)] at he
        by_cases e2 : q = 5
        · rw [if_pos e2] at he
          have := h4 (p + 1) 0 (by omega) (by decide) he
          omega
        · rw [if_neg e2, if_pos (by omega)] at he
          have := h4 (p + 1) (q + 1) (by omega) (by omega) he
          omega
    · have hj6 : j < 6 := hj
      rw [e11] at hg2
      have hsl : ∀ x, x < 207 → svP P r 6 (207 * j + x) = if j = 5 then r x else P (207 * (j + 1) + x) := fun x hx => by
        unfold svP
        rw [if_pos rfl]
        unfold cpA
        by_cases e : j = 5
        · subst e
          rw [if_pos (by omega), if_pos rfl, show 0 + (207 * 5 + x - 1035) = x by omega]
        · rw [if_neg (by omega), if_pos (by omega), if_neg e, show 207 + (207 * j + x - 0) = 207 * (j + 1) + x by omega]
      by_cases e : j = 5
      · rw [if_pos e] at hg2
        have : g2 = g := by omega
        subst this
        have hb : DV (sa (sa v 11 (rs (rtN (v 11) 6) 5 (v 11 0))) 10 (rs (v 10) 1 5)) 1 r c := hD.same (fun k hk => by rw [sa_ne (by omega), sa_ne (by omega)]) (fun _ _ => rfl)
        exact (hb.cpd (a := g2) (r2 := fun x => svP P r 6 (207 * j + x)) (fun x hx => by rw [hsl x hx, if_pos e])).same (fun k hk => by funext q; rw [up_ne (by omega)]) (fun _ _ => rfl)
      · rw [if_neg e, if_pos (by omega)] at hg2
        obtain ⟨g3, hg3, hq3⟩ := h3 (j + 1) (by omega)
        have : g3 = g2 := by omega
        subst this
        have hne : g3 ≠ g := fun e2 => by
          subst e2
          have := h4 (j + 1) 0 (by omega) (by decide) (by omega)
          omega
        have hap := hst_apart hg3 hg hne
        refine (h5 (j + 1) (by omega) g3 hg2).same (fun k hk => eo _ ?_ ?_ (by omega)) (fun x hx => by rw [hsl x hx, if_neg e])
        · unfold hst at hg3; omega
        · unfold hst at hg3; omega
  · have hs6 : s < 6 := by omega
    obtain ⟨g, hg, hq⟩ := h3 s hs6
    have h := c_X2_store_l (N := N) (v := v) (s := s) (g := g) hT h1 hs6 hq (dsk_h hT hg) (by unfold hst at hg; omega)
    refine RunsP.imp h ?_
    rintro r1 v1 ⟨rfl, rfl⟩
    have hlo : 12 ≤ g ∧ g ≤ 57 := by unfold hst at hg; omega
    have hsv : svN s = s + 1 := if_neg h6
    have e11 : ∀ q, up (cpd v g 1 24 10 true) 10 1 ((s + 1 : Nat) : Int) 11 q = v 11 q := fun q => by rw [up_ne (by decide), cpd_o (by omega)]
    have eo : ∀ a, a ≠ 10 → (a < g ∨ g + 9 ≤ a) → up (cpd v g 1 24 10 true) 10 1 ((s + 1 : Nat) : Int) a = v a := fun a h7 h9 => by
      funext q
      rw [up_ne h7, cpd_o h9]
    rw [hsv]
    refine ⟨rfl, ⟨?_, by omega, fun q hq2 => by rw [e11]; exact h3 q hq2, fun p q hp hq2 he => by rw [e11, e11] at he; exact h4 p q hp hq2 he, fun j hj g2 hg2 => ?_⟩, fun a ha => eo a (by omega) (by omega)⟩
    · rw [up_eq]
    · rw [e11] at hg2
      have hsl : ∀ x, x < 207 → svP P r s (207 * j + x) = if j = s then r x else P (207 * j + x) := fun x hx => by
        unfold svP
        rw [if_neg h6]
        unfold cpA
        by_cases e : j = s
        · subst e
          rw [if_pos (by omega), if_pos rfl]
          congr 1
          omega
        · rw [if_neg (by omega), if_neg e]
      by_cases e : j = s
      · subst e
        have : g2 = g := by omega
        subst this
        exact (hD.cpd (a := g2) (r2 := fun x => svP P r j (207 * j + x)) (fun x hx => by rw [hsl x hx, if_pos rfl])).same (fun k hk => by funext q; rw [up_ne (by omega)]) (fun _ _ => rfl)
      · obtain ⟨g3, hg3, hq3⟩ := h3 j (by omega)
        have : g3 = g2 := by omega
        subst this
        have hne : g3 ≠ g := fun e2 => by
          subst e2
          have := h4 j s (by omega) hs6 (by omega)
          omega
        have hap := hst_apart hg3 hg hne
        refine (h5 j (by omega) g3 hg2).same (fun k hk => eo _ ?_ (by omega)) (fun x hx => by rw [hsl x hx, if_neg e])
        unfold hst at hg3; omega
end HIS
