section REL
variable {K O Rk Z B S W P r K2 O2 Rk2 Z2 B2 S2 W2 P2 r2 : Nat → Int}
theorem DR.congr (H : DR K O Rk Z B S W P r) (h1 : ∀ b, b < 24 → K2 b = K b ∧ O2 b = O b ∧ Rk2 b = Rk b) (h2 : ∀ f, f < 10 → Z2 f = Z f ∧ B2 f = B f ∧ S2 f = S f ∧ W2 f = W f ∧ P2 f = P f) (h3 : ∀ j, j < 207 → r2 j = r j) : DR K2 O2 Rk2 Z2 B2 S2 W2 P2 r2 := by
  have hro : ∀ f w, f < 10 → w < 18 → ro r2 f w = ro r f w := fun f w hf hw => h3 _ (by omega)
  refine ⟨fun f hf => ?_, fun b hb => ?_, fun f hf => ?_, ?_⟩
  · obtain ⟨e1, e2, e3, e4, e5⟩ := h2 f hf
    have h := H.1 f hf
    unfold DRf at h ⊢
    rw [e1, e2, e3, e4, e5, hro f 0 hf (by decide), hro f 1 hf (by decide), hro f 2 hf (by decide), hro f 3 hf (by decide), hro f 4 hf (by decide), hro f 5 hf (by decide)]
    rcases h with h | h
    · exact Or.inl ⟨h.1, fun w hw => by rw [hro f w hf hw]; exact h.2.1 w hw, h.2.2⟩
    · exact Or.inr h
  · obtain ⟨e1, e2, e3⟩ := h1 b hb
    obtain ⟨k1, k2, k3, k4, k5, k6, k7, k8⟩ := H.2.1 b hb
    refine ⟨by rw [e1, h3 (3 + b) (Nat.lt_of_lt_of_le (Nat.add_lt_add_left hb 3) (by decide))]; exact k1, by rw [e1]; exact k2, ?_, by rw [e1, e2]; exact k4, by rw [e1, e2]; exact k5, ?_, ?_, ?_⟩
    · rw [e2, e3]
      rcases k3 with h | ⟨f, k, hf, q1, q2, q3, q4⟩
      · exact Or.inl h
      · have h200 := (H.DI f hf).1
        exact Or.inr ⟨f, k, hf, q1, q2, by rw [(h2 f hf).1]; exact q3, by rw [hro f (6 + k) hf (by omega)]; exact q4⟩
    · rw [e1]
      intro q
      obtain ⟨f, hf, h⟩ := k6 q
      exact ⟨f, hf, by rw [(h2 f hf).2.1]; exact h⟩
    · rw [e1]
      intro f hf q
      rw [(h2 f hf).2.1] at q
      exact k7 f hf q
    · rw [e1, e2]
      intro q f hf h
      rw [(h2 f hf).2.1] at h
      rw [(h2 f hf).2.2.2.1]
      exact k8 q f hf h
  · intro k hk
    rw [(h2 f hf).1] at hk
    obtain ⟨b, hb, q1, q2, q3⟩ := H.2.2.1 f hf k hk
    have h200 := (H.DI f hf).1
    exact ⟨b, hb, by rw [hro f (6 + k) hf (by omega)]; exact q1, by rw [(h1 b hb).2.1]; exact q2, by rw [(h1 b hb).2.2]; exact q3⟩
  · intro f g hf hg hne hB hB1
    rw [(h2 f hf).2.1] at hB hB1
    rw [(h2 g hg).2.1] at hB
    rw [(h2 f hf).1, (h2 g hg).1, (h2 f hf).2.2.1, (h2 g hg).2.2.1]
    exact H.2.2.2 f g hf hg hne hB hB1
/-- the last whole block given up -/
theorem DR.s3 (H : DR K O Rk Z B S W P r) {f w : Nat} (hf : f < 10) (hz : Z f = 16 * ((w + 1 : Nat) : Int)) (hw : W f = 0) :
    ∃ b0 : Nat, b0 < 24 ∧ O b0 = (f : Int) ∧ Rk b0 = (w : Int) ∧ K b0 = 1 ∧ (∀ b, b < 24 → O b = (f : Int) → Rk b = (w : Int) → b = b0) ∧
      DR (rs K b0 0) (rs O b0 (-1)) (rs Rk b0 0) (rs Z f (16 * (w : Int))) B S W P (dwS r f) := by
  rcases H.1 f hf with ⟨-, -, c, -⟩ | ⟨h0, e1, h1, e2, h2, e5, e4, h3⟩
  · omega
  obtain ⟨b0, hb0, hr0, ho0, hk0⟩ := H.2.2.1 f hf w (by omega)
  have hB0 := H.2.1 b0 hb0
  have hKb0 : K b0 = 1 := by
    rcases hB0.2.2.2.1 (by omega) with q | q
    · exact q
    · have := hB0.2.2.2.2.2.2.2 q f hf (Or.inl ho0)
      omega
  have hun : ∀ b, b < 24 → O b = (f : Int) → Rk b = (w : Int) → b = b0 := fun b hb q1 q2 => by
    obtain ⟨k, q3, -, q4⟩ := H.own hf hb q1
    have e : k = w := by omega
    subst e
    omega
  have hI := H.RI
  have h16 : 16 ≤ ro r f 1 := by omega
  have hro : ∀ g x, x < 18 → ro (dwS r f) g x = if g = f ∧ x = 1 then ro r f 1 - 16 else ro r g x := fun g x hx => dwS_ro hI hf h16 hx
  have hone : ∀ g x, x < 18 → g ≠ f → ro (dwS r f) g x = ro r g x := fun g x hx hg => by rw [hro g x hx, if_neg (by omega)]
  have hsm : ∀ x, x < 18 → x ≠ 1 → ro (dwS r f) f x = ro r f x := fun x hx hx1 => by rw [hro f x hx, if_neg (by omega)]
  have hbb : ∀ b, b < 24 → dwS r f (3 + b) = rs r (3 + b0) 0 (3 + b) := fun b hb => by
    unfold dwS
    rw [rs_ne (by omega), show 6 + (ro r f 1 / 16).toNat - 1 = 6 + w by omega, hr0, Int.toNat_natCast]
  refine ⟨b0, hb0, ho0, hk0, hKb0, hun, fun g hg => ?_, fun b hb => ?_, fun g hg => ?_, ?_⟩
  · by_cases e : g = f
    · subst e
      refine Or.inr ⟨?_, ?_, ?_, ?_, h2, ?_, ?_, Or.inr ?_⟩
      · rw [hsm 0 (by decide) (by decide)]; exact h0
      · rw [hro g 1 (by decide), if_pos ⟨rfl, rfl⟩, rs_eq]; omega
      · rw [rs_eq]; omega
      · rw [hsm 2 (by decide) (by decide)]; exact e2
      · rw [hsm 5 (by decide) (by decide)]; exact e5
      · rw [hsm 4 (by decide) (by decide)]; exact e4
      · rw [rs_eq]
        rcases h3 with h3 | h3
        · omega
        · exact ⟨by omega, h3.2⟩
    · have h := H.1 g hg
      unfold DRf at h ⊢
      rw [rs_ne e, hone g 0 (by decide) e, hone g 1 (by decide) e, hone g 2 (by decide) e, hone g 3 (by decide) e, hone g 4 (by decide) e, hone g 5 (by decide) e]
      rcases h with h | h
      · exact Or.inl ⟨h.1, fun w hw => by rw [hone g w hw e]; exact h.2.1 w hw, h.2.2⟩
      · exact Or.inr h
  · by_cases eb : b = b0
    · subst eb
      refine ⟨by rw [rs_eq, hbb b hb, rs_eq], by rw [rs_eq]; omega, Or.inl (rs_eq _ _ _), fun q => absurd (rs_eq _ _ _) q, fun q => ?_, fun q => ?_, fun g hg q => ?_, fun q => ?_⟩
      · rw [rs_eq] at q; omega
      · rw [rs_eq] at q; omega
      · have := hB0.2.2.2.2.2.2.1 g hg q
        omega
      · rw [rs_eq] at q; omega
    · obtain ⟨k1, k2, k3, k4, k5, k6, k7, k8⟩ := H.2.1 b hb
      refine ⟨by rw [rs_ne eb, hbb b hb, rs_ne (j := 3 + b) (i := 3 + b0) (fun q => eb (Nat.add_left_cancel q))]; exact k1, by rw [rs_ne eb]; exact k2, ?_, by rw [rs_ne eb, rs_ne eb]; exact k4, by rw [rs_ne eb, rs_ne eb]; exact k5, by rw [rs_ne eb]; exact k6, by rw [rs_ne eb]; exact k7, by rw [rs_ne eb, rs_ne eb]; exact k8⟩
      rw [rs_ne eb, rs_ne eb]
      rcases k3 with h | ⟨g, k, hg, q1, q2, q3, q4⟩
      · exact Or.inl h
      · refine Or.inr ⟨g, k, hg, q1, q2, ?_, ?_⟩
        · by_cases e : g = f
          · subst e
            rw [rs_eq]
            have hkw : k ≠ w := fun q => eb (hun b hb q1 (by omega))
            omega
          · rw [rs_ne e]; exact q3
        · have := (H.DI g hg).1
          rw [hro g (6 + k) (by omega), if_neg (by omega)]
          exact q4
  · intro k hk
    have hk2 : (k : Int) < Z g / 16 ∧ (g = f → k ≠ w) := by
      by_cases e : g = f
      · subst e
        rw [rs_eq] at hk
        exact ⟨by omega, fun _ => by omega⟩
      · rw [rs_ne e] at hk
        exact ⟨hk, fun q => absurd q e⟩
    obtain ⟨b, q1, q2, q3, q4⟩ := H.2.2.1 g hg k hk2.1
    have hne : b ≠ b0 := fun q => by
      subst q
      have e : g = f := by omega
      exact hk2.2 e (by omega)
    have := (H.DI g hg).1
    exact ⟨b, q1, by rw [hro g (6 + k) (by omega), if_neg (by omega)]; exact q2, by rw [rs_ne hne]; exact q3, by rw [rs_ne hne]; exact q4⟩
  · intro g g2 hg hg2 hne hB hB1
    have h := H.2.2.2 g g2 hg hg2 hne hB hB1
    have hm : ∀ g, rs Z f (16 * (w : Int)) g % 16 = Z g % 16 := fun g => by
      by_cases e : g = f
      · subst e; rw [rs_eq]; omega
      · rw [rs_ne e]
    rw [hm, hm]
    exact h
/-- some whole blocks given up, the last ones first -/
theorem DR.s3n {f : Nat} (hf : f < 10) (hw : W f = 0) : ∀ (n w : Nat) (K O Rk Z r : Nat → Int), DR K O Rk Z B S W P r → Z f = 16 * (w : Int) → n ≤ w →
    DR (fun b => if O b = (f : Int) ∧ ((w - n : Nat) : Int) ≤ Rk b then 0 else K b) (fun b => if O b = (f : Int) ∧ ((w - n : Nat) : Int) ≤ Rk b then -1 else O b) (fun b => if O b = (f : Int) ∧ ((w - n : Nat) : Int) ≤ Rk b then 0 else Rk b) (rs Z f (16 * ((w - n : Nat) : Int))) B S W P (dwN r f n) := by
  intro n
  induction n with
  | zero =>
    intro w K O Rk Z r H hz _
    have hno : ∀ b, b < 24 → ¬ (O b = (f : Int) ∧ ((w - 0 : Nat) : Int) ≤ Rk b) := fun b hb q => by
      obtain ⟨k, q3, q4, -⟩ := H.own hf hb q.1
      omega
    refine H.congr (fun b hb => ⟨if_neg (hno b hb), if_neg (hno b hb), if_neg (hno b hb)⟩) (fun g hg => ⟨?_, rfl, rfl, rfl, rfl⟩) (fun j _ => rfl)
    by_cases e : g = f
    · subst e; rw [rs_eq, hz]; omega
    · rw [rs_ne e]
  | succ n ih =>
    intro w K O Rk Z r H hz hn
    obtain ⟨b0, hb0, ho0, hk0, hK0, hun, H2⟩ := H.s3 (w := w - 1) hf (by omega) hw
    have H3 := ih (w - 1) _ _ _ _ _ H2 (rs_eq _ _ _) (by omega)
    rw [show w - 1 - n = w - (n + 1) by omega] at H3
    refine H3.congr (fun b hb => ?_) (fun g hg => ⟨?_, rfl, rfl, rfl, rfl⟩) (fun j _ => rfl)
    · by_cases e : b = b0
      · subst e
        have h1 : O b = (f : Int) ∧ ((w - (n + 1) : Nat) : Int) ≤ Rk b := ⟨ho0, by omega⟩
        have h2 : ¬ (rs O b (-1) b = (f : Int) ∧ ((w - (n + 1) : Nat) : Int) ≤ rs Rk b 0 b) := fun q => by
          have := q.1
          rw [rs_eq] at this
          omega
        show (if _ then _ else _) = (if _ then _ else _) ∧ (if _ then _ else _) = (if _ then _ else _) ∧ (if _ then _ else _) = (if _ then _ else _)
        rw [if_pos h1, if_pos h1, if_pos h1, if_neg h2, if_neg h2, if_neg h2, rs_eq, rs_eq, rs_eq]
        exact ⟨rfl, rfl, rfl⟩
      · show (if _ then _ else _) = (if _ then _ else _) ∧ (if _ then _ else _) = (if _ then _ else _) ∧ (if _ then _ else _) = (if _ then _ else _)
        rw [rs_ne e, rs_ne e, rs_ne e]
        exact ⟨rfl, rfl, rfl⟩
    · show rs Z f _ g = rs (rs Z f _) f _ g
      rw [rs_rs]
theorem dwS2_at (f lf : Int) (K O Rk : Nat → Int) : ∀ n b, (dwS2 f lf K O Rk n).1 b = (if b < n ∧ (O b = f ∧ lf ≤ Rk b) ∧ K b = 1 then 0 else K b) ∧ (dwS2 f lf K O Rk n).2.1 b = (if b < n ∧ (O b = f ∧ lf ≤ Rk b) then -1 else O b) ∧ (dwS2 f lf K O Rk n).2.2.1 b = (if b < n ∧ (O b = f ∧ lf ≤ Rk b) then 0 else Rk b) := by
  intro n
  induction n with
  | zero => intro b; exact ⟨(if_neg (fun q => absurd q.1 (Nat.not_lt_zero b))).symm, (if_neg (fun q => absurd q.1 (Nat.not_lt_zero b))).symm, (if_neg (fun q => absurd q.1 (Nat.not_lt_zero b))).symm⟩
  | succ n ih =>
    intro b
    obtain ⟨h1, h2, h3⟩ := ih n
    rw [if_neg (fun q => Nat.lt_irrefl n q.1)] at h1 h2 h3
    obtain ⟨g1, g2, g3⟩ := ih b
    unfold dwS2
    rw [h1, h2, h3]
    by_cases e : b = n
    · subst e
      by_cases hc : O b = f ∧ lf ≤ Rk b
      · rw [if_pos hc]
        by_cases hk : K b = 1
        · rw [if_pos hk]
          show rs _ b 0 b = _ ∧ rs _ b (-1) b = _ ∧ rs _ b 0 b = _
          rw [rs_eq, rs_eq, rs_eq, if_pos ⟨Nat.lt_succ_self b, hc, hk⟩, if_pos ⟨Nat.lt_succ_self b, hc⟩, if_pos ⟨Nat.lt_succ_self b, hc⟩]
          exact ⟨rfl, rfl, rfl⟩
        · rw [if_neg hk]
          show _ ∧ rs _ b (-1) b = _ ∧ rs _ b 0 b = _
          rw [rs_eq, rs_eq, if_neg (fun q => hk q.2.2), if_pos ⟨Nat.lt_succ_self b, hc⟩, if_pos ⟨Nat.lt_succ_self b, hc⟩]
          exact ⟨h1, rfl, rfl⟩
      · rw [if_neg hc, if_neg (fun q => hc q.2.1), if_neg (fun q => hc q.2), if_neg (fun q => hc q.2)]
        exact ⟨h1, h2, h3⟩
    · have hlt : b < n + 1 ↔ b < n := by omega
      have c1 : (b < n + 1 ∧ (O b = f ∧ lf ≤ Rk b) ∧ K b = 1) = (b < n ∧ (O b = f ∧ lf ≤ Rk b) ∧ K b = 1) := by rw [hlt]
      have c2 : (b < n + 1 ∧ (O b = f ∧ lf ≤ Rk b)) = (b < n ∧ (O b = f ∧ lf ≤ Rk b)) := by rw [hlt]
      simp only [c1, c2]
      by_cases hc : O n = f ∧ lf ≤ Rk n
      · rw [if_pos hc]
        by_cases hk : K n = 1
        · rw [if_pos hk]
          show rs _ n 0 b = _ ∧ rs _ n (-1) b = _ ∧ rs _ n 0 b = _
          rw [rs_ne e, rs_ne e, rs_ne e]
          exact ⟨g1, g2, g3⟩
        · rw [if_neg hk]
          show _ ∧ rs _ n (-1) b = _ ∧ rs _ n 0 b = _
          rw [rs_ne e, rs_ne e]
          exact ⟨g1, g2, g3⟩
      · rw [if_neg hc]
        exact ⟨g1, g2, g3⟩
/-- the class gives up a file's whole blocks from a rank on -/
theorem DR.s3d (H : DR K O Rk Z B S W P r) {f w n : Nat} (hf : f < 10) (hw : W f = 0) (hz : Z f = 16 * (w : Int)) (hn : n ≤ w) :
    DR (dwS2 (f : Int) ((w - n : Nat) : Int) K O Rk 24).1 (dwS2 (f : Int) ((w - n : Nat) : Int) K O Rk 24).2.1 (dwS2 (f : Int) ((w - n : Nat) : Int) K O Rk 24).2.2.1 (rs Z f (16 * ((w - n : Nat) : Int))) B S W P (dwN r f n) := by
  refine (DR.s3n hf hw n w K O Rk Z r H hz hn).congr (fun b hb => ?_) (fun g _ => ⟨rfl, rfl, rfl, rfl, rfl⟩) (fun j _ => rfl)
  obtain ⟨h1, h2, h3⟩ := dwS2_at (f : Int) ((w - n : Nat) : Int) K O Rk 24 b
  rw [h1, h2, h3]
  by_cases hc : O b = (f : Int) ∧ ((w - n : Nat) : Int) ≤ Rk b
  · have hk : K b = 1 := by
      have hB := H.2.1 b hb
      rcases hB.2.2.2.1 (by omega) with q | q
      · exact q
      · have := hB.2.2.2.2.2.2.2 q f hf (Or.inl hc.1)
        omega
    exact ⟨(if_pos ⟨hb, hc, hk⟩).trans (if_pos hc).symm, (if_pos ⟨hb, hc⟩).trans (if_pos hc).symm, (if_pos ⟨hb, hc⟩).trans (if_pos hc).symm⟩
  · exact ⟨(if_neg (fun q => hc q.2.1)).trans (if_neg hc).symm, (if_neg (fun q => hc q.2)).trans (if_neg hc).symm, (if_neg (fun q => hc q.2)).trans (if_neg hc).symm⟩
-- a tail placed
theorem gfN_in {rule cells : Int} {gap : Nat → Nat} : ∀ n, (gfN rule cells gap n).1 = -1 ∨ ∃ k : Nat, k < n ∧ (gfN rule cells gap n).1 = (k : Int) ∧ cells ≤ (gap k : Int) := by
  intro n
  induction n with
  | zero => exact Or.inl rfl
  | succ n ih =>
    by_cases h : cells ≤ gap n ∧ (if rule = 0 then (gfN rule cells gap n).1 = -1 else (gap n : Int) < (gfN rule cells gap n).2)
    · rw [gfN_t h]
      exact Or.inr ⟨n, Nat.lt_succ_self n, rfl, h.1⟩
    · rw [gfN_f h]
      rcases ih with q | ⟨k, q1, q2, q3⟩
      · exact Or.inl q
      · exact Or.inr ⟨k, by omega, q2, q3⟩
theorem gfN_iff {rule cells : Int} {gap : Nat → Nat} (hg : ∀ k, gap k ≤ 16) : ∀ n, (gfN rule cells gap n).1 ≠ -1 ↔ ∃ k : Nat, k < n ∧ cells ≤ (gap k : Int) := by
  intro n
  constructor
  · intro h
    rcases gfN_in (rule := rule) (cells := cells) (gap := gap) n with q | ⟨k, q1, -, q3⟩
    · exact absurd q h
    · exact ⟨k, q1, q3⟩
  · induction n with
    | zero => rintro ⟨k, hk, -⟩; omega
    | succ n ih =>
      rintro ⟨k, hk, hc⟩
      by_cases h : cells ≤ gap n ∧ (if rule = 0 then (gfN rule cells gap n).1 = -1 else (gap n : Int) < (gfN rule cells gap n).2)
      · rw [gfN_t h]
        show (n : Int) ≠ -1
        omega
      · rw [gfN_f h]
        by_cases e : k = n
        · subst e
          intro q
          refine h ⟨hc, ?_⟩
          split
          · exact q
          · rw [gfN_m1 k q]
            have := hg k
            omega
        · exact ih ⟨k, by omega, hc⟩
theorem plcF_at (H : DR K O Rk Z B S W P r) {c : Nat} (hc : 1 ≤ c) (h : plcF r (c : Int) ≠ -1) : ∃ b0 s0 : Nat, b0 < 24 ∧ s0 < 16 ∧ plcF r (c : Int) = ((16 * b0 + s0 : Nat) : Int) ∧ ((K b0 = 2 ∧ frE (tkC r b0) s0 c ∧ s0 + c ≤ 16) ∨ (K b0 = 0 ∧ s0 = 0)) := by
  unfold plcF at h ⊢
  by_cases hg : gapF r (c : Int) ≠ -1
  · rw [if_pos hg]
    unfold gapF at hg ⊢
    rcases gfN_in (rule := r 2) (cells := (c : Int)) (gap := gapK r) 384 with q | ⟨k, q1, q2, q3⟩
    · exact absurd q hg
    · refine ⟨k / 16, k % 16, by omega, by omega, by rw [q2]; omega, Or.inl ?_⟩
      have h1 : (c : Int) ≤ (gapAt (decide (r (3 + k / 16) = 2)) (tkC r (k / 16)) (k % 16) : Nat) := q3
      have hk : K (k / 16) = 2 := by
        rw [H.kind (by omega)]
        refine Decidable.byContradiction fun q => ?_
        rw [decide_eq_false q, gapAt_0 (Or.inl rfl)] at h1
        omega
      rw [H.kind (by omega)] at hk
      rw [decide_eq_true hk] at h1
      have h2 := gapAt_in (tk := tkC r (k / 16)) (sh := true) (c := k % 16) (by omega)
      rw [H.kind (by omega)]
      exact ⟨hk, fun i hi => gapAt_fr (k % 16) i (by omega), by omega⟩
  · rw [if_neg hg] at h ⊢
    by_cases hl : lowF r = -1
    · rw [if_pos hl] at h
      exact absurd rfl h
    · rw [if_neg hl]
      obtain ⟨b0, q1, q2, q3⟩ := lowF_at hl
      exact ⟨b0, 0, q1, by decide, by rw [q2]; omega, Or.inr ⟨by rw [H.kind q1]; exact q3, rfl⟩⟩
theorem DR.tkF (H : DR K O Rk Z B S W P r) {b c : Nat} (h : tkC r b c = false) {g : Nat} (hg : g < 10) (hB : B g = (b : Int)) : ¬ (S g ≤ (c : Int) ∧ (c : Int) < S g + Z g % 16) := by
  intro q
  have h1 : tkC r b c = true := by
    show isTk r (b : Int) (c : Int) = true
    rw [H.tk, btB_tb]
    unfold tkA
    rw [tkF_tb (H.S0 (by omega)) c 10 (Nat.le_refl _)]
    exact orN_iff.mpr ⟨g, hg, decide_eq_true ⟨hB, by omega, q⟩⟩
  rw [h1] at h
  cases h
theorem DR.s4 (H : DR K O Rk Z B S W P r) {f c b0 s0 : Nat} (hf : f < 10) (hz : Z f ≠ -1) (h16 : Z f % 16 = 0) (hc : 1 ≤ c ∧ c < 16) (h200 : Z f + c ≤ 200) (hw : W f = 0) (hb0 : b0 < 24) (hs0 : s0 < 16) (hp : plcF r (c : Int) = ((16 * b0 + s0 : Nat) : Int)) (hq : (K b0 = 2 ∧ frE (tkC r b0) s0 c ∧ s0 + c ≤ 16) ∨ (K b0 = 0 ∧ s0 = 0)) :
    DR (rs K b0 2) O Rk (rs Z f (Z f + c)) (rs B f (b0 : Int)) (rs S f (s0 : Int)) W (rs P f (wr (P f + 1))) (ptR r f (c : Int)) := by
  rcases H.1 f hf with ⟨-, -, q, -⟩ | ⟨h0, e1, h1, e2, h2, e5, e4, h3⟩
  · exact absurd q hz
  have hBf : B f = -1 := by
    rcases h3 with h3 | h3
    · omega
    · exact h3.2.1
  have hin : s0 + c ≤ 16 := by
    rcases hq with q | q <;> omega
  obtain ⟨R1, hR1⟩ : ∃ R1, R1 = rs (rs (rs r (3 + b0) 2) (27 + 18 * f + 3) (b0 : Int)) (27 + 18 * f + 4) (s0 : Int) := ⟨_, rfl⟩
  have he : ptR r f (c : Int) = rs (rs R1 (27 + 18 * f + 1) (ro r f 1 + c)) (27 + 18 * f + 5) (wr (ro r f 5 + 1)) := by
    have b1 : ro R1 f 1 = ro r f 1 := by
      rw [hR1, ro_rs (w := 4) (w2 := 1) (by decide) (by decide), if_neg (by omega), ro_rs (w := 3) (w2 := 1) (by decide) (by decide), if_neg (by omega)]
      exact ro_rsb (by omega)
    have b2 : ∀ y, ro (rs R1 (27 + 18 * f + 1) y) f 5 = ro r f 5 := fun y => by
      rw [ro_rs (w := 1) (w2 := 5) (by decide) (by decide), if_neg (by omega), hR1, ro_rs (w := 4) (w2 := 5) (by decide) (by decide), if_neg (by omega), ro_rs (w := 3) (w2 := 5) (by decide) (by decide), if_neg (by omega)]
      exact ro_rsb (by omega)
    unfold ptR
    rw [hp, Int.toNat_natCast, show (16 * b0 + s0) / 16 = b0 by omega, show ((16 * b0 + s0 : Nat) : Int) / 16 = (b0 : Int) by omega, show ((16 * b0 + s0 : Nat) : Int) % 16 = (s0 : Int) by omega]
    dsimp only
    rw [← hR1, b1, wr_id (x := ro r f 1 + (c : Int)) (by omega), b2]
  have hro : ∀ g x, x < 18 → ro (ptR r f (c : Int)) g x = if g = f ∧ x = 5 then wr (ro r f 5 + 1) else if g = f ∧ x = 1 then ro r f 1 + c else if g = f ∧ x = 4 then (s0 : Int) else if g = f ∧ x = 3 then (b0 : Int) else ro r g x := fun g x hx => by
    rw [he, ro_rs (w := 5) (by decide) hx, ro_rs (w := 1) (by decide) hx, hR1, ro_rs (w := 4) (by decide) hx, ro_rs (w := 3) (by decide) hx, show ro (rs r (3 + b0) 2) g x = ro r g x from ro_rsb (by omega)]
  have hone : ∀ g x, x < 18 → g ≠ f → ro (ptR r f (c : Int)) g x = ro r g x := fun g x hx hg => by rw [hro g x hx, if_neg (by omega), if_neg (by omega), if_neg (by omega), if_neg (by omega)]
  have hbb : ∀ b, b < 24 → ptR r f (c : Int) (3 + b) = rs r (3 + b0) 2 (3 + b) := fun b hb => by
    rw [he, rs_ne (by omega), rs_ne (by omega), hR1, rs_ne (by omega), rs_ne (by omega)]
  have hB0 := H.2.1 b0 hb0
  have hO0 : O b0 = -1 := by
    by_cases q : O b0 = -1
    · exact q
    · have := hB0.2.2.2.1 q
      omega
  have hZ16 : ∀ g, rs Z f (Z f + c) g / 16 = Z g / 16 := fun g => by
    by_cases e : g = f
    · subst e; rw [rs_eq]; omega
    · rw [rs_ne e]
  have hlist : ∀ g k : Nat, g < 10 → (k : Int) < Z g / 16 → ro (ptR r f (c : Int)) g (6 + k) = ro r g (6 + k) := fun g k hg hk => by
    have := (H.DI g hg).1
    rw [hro g (6 + k) (by omega), if_neg (by omega), if_neg (by omega), if_neg (by omega), if_neg (by omega)]
  have hfree : ∀ g, g < 10 → B g = (b0 : Int) → S g + Z g % 16 ≤ (s0 : Int) ∨ (s0 : Int) + c ≤ S g := fun g hg hB => by
    obtain ⟨-, -, -, q1, -, -, -, q2, q3⟩ := (H.1 g hg).tl (by omega)
    rcases hq with q | q
    · refine Decidable.byContradiction fun hno => ?_
      by_cases hle : S g ≤ (s0 : Int)
      · have h4 := q.2.1 0 (by omega)
        exact H.tkF h4 hg hB (by omega)
      · have h4 := q.2.1 ((S g).toNat - s0) (by omega)
        exact H.tkF h4 hg hB (by omega)
    · have := H.no2 hb0 (Or.inl q.1) hg
      exact absurd hB this
  refine ⟨fun g hg => ?_, fun b hb => ?_, fun g hg => ?_, ?_⟩
  · by_cases e : g = f
    · subst e
      refine Or.inr ⟨?_, ?_, ?_, ?_, h2, ?_, ?_, Or.inl ?_⟩
      · rw [hro g 0 (by decide), if_neg (by omega), if_neg (by omega), if_neg (by omega), if_neg (by omega)]; exact h0
      · rw [hro g 1 (by decide), if_neg (by omega), if_pos ⟨rfl, rfl⟩, rs_eq, e1]
      · rw [rs_eq]; omega
      · rw [hro g 2 (by decide), if_neg (by omega), if_neg (by omega), if_neg (by omega), if_neg (by omega)]; exact e2
      · rw [hro g 5 (by decide), if_pos ⟨rfl, rfl⟩, rs_eq, e5]
      · rw [hro g 4 (by decide), if_neg (by omega), if_neg (by omega), if_pos ⟨rfl, rfl⟩]; omega
      · rw [rs_eq, rs_eq, rs_eq, hro g 3 (by decide), if_neg (by omega), if_neg (by omega), if_neg (by omega), if_pos ⟨rfl, rfl⟩, hro g 4 (by decide), if_neg (by omega), if_neg (by omega), if_pos ⟨rfl, rfl⟩]
        omega
    · have h := H.1 g hg
      unfold DRf at h ⊢
      rw [rs_ne e, rs_ne e, rs_ne e, rs_ne e, hone g 0 (by decide) e, hone g 1 (by decide) e, hone g 2 (by decide) e, hone g 3 (by decide) e, hone g 4 (by decide) e, hone g 5 (by decide) e]
      rcases h with h | h
      · exact Or.inl ⟨h.1, fun w hw => by rw [hone g w hw e]; exact h.2.1 w hw, h.2.2⟩
      · exact Or.inr h
  · by_cases eb : b = b0
    · subst eb
      refine ⟨by rw [rs_eq, hbb b hb, rs_eq], by rw [rs_eq]; omega, Or.inl hO0, fun q => absurd hO0 q, fun q => ?_, fun _ => ⟨f, hf, rs_eq _ _ _⟩, fun g hg q => Or.inl (rs_eq _ _ _), fun q => ?_⟩
      · rw [rs_eq] at q; omega
      · rw [rs_eq] at q; omega
    · obtain ⟨k1, k2, k3, k4, k5, k6, k7, k8⟩ := H.2.1 b hb
      refine ⟨by rw [rs_ne eb, hbb b hb, rs_ne (j := 3 + b) (i := 3 + b0) (fun q => eb (Nat.add_left_cancel q))]; exact k1, by rw [rs_ne eb]; exact k2, ?_, by rw [rs_ne eb]; exact k4, by rw [rs_ne eb]; exact k5, ?_, ?_, ?_⟩
      · rcases k3 with h | ⟨g, k, hg, q1, q2, q3, q4⟩
        · exact Or.inl h
        · exact Or.inr ⟨g, k, hg, q1, q2, by rw [hZ16]; exact q3, by rw [hlist g k hg q3]; exact q4⟩
      · rw [rs_ne eb]
        intro q
        obtain ⟨g, hg, h⟩ := k6 q
        have e : g ≠ f := fun e => by subst e; omega
        exact ⟨g, hg, by rw [rs_ne e]; exact h⟩
      · rw [rs_ne eb]
        intro g hg q
        by_cases e : g = f
        · subst e; rw [rs_eq] at q; clear k3 k6; omega
        · rw [rs_ne e] at q; exact k7 g hg q
      · rw [rs_ne eb]
        intro q g hg h
        by_cases e : g = f
        · subst e
          rcases h with h | h
          · exact k8 q g hg (Or.inl h)
          · rw [rs_eq] at h; clear k3; omega
        · rw [rs_ne e] at h
          exact k8 q g hg h
  · intro k hk
    rw [hZ16] at hk
    obtain ⟨b, q1, q2, q3⟩ := H.2.2.1 g hg k hk
    exact ⟨b, q1, by rw [hlist g k hg hk]; exact q2, q3⟩
  · intro g g2 hg hg2 hne hB hB1
    by_cases e : g = f
    · subst e
      have e2 : g2 ≠ g := fun q => hne q.symm
      rw [rs_eq, rs_ne e2] at hB
      have := hfree g2 hg2 hB.symm
      rw [rs_eq, rs_eq, rs_ne e2, rs_ne e2]
      omega
    · by_cases e2 : g2 = f
      · subst e2
        rw [rs_eq, rs_ne e] at hB
        have := hfree g hg hB
        rw [rs_eq, rs_eq, rs_ne e, rs_ne e]
        omega
      · rw [rs_ne e] at hB hB1
        rw [rs_ne e2] at hB
        rw [rs_ne e, rs_ne e, rs_ne e2, rs_ne e2]
        exact H.2.2.2 g g2 hg hg2 hne hB hB1
end REL
