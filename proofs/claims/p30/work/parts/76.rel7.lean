def mpP (r : Nat → Int) : Nat → (Nat → Int) × (Nat → Int)
  | 0 => (r, fun b => pl0 r b)
  | a + 1 => (pkR (mpP r a).1 (mpP r a).2 ((srL r 150).getD a 0), pkFl (mpP r a).1 (mpP r a).2 ((srL r 150).getD a 0))
theorem mpP_N {r : Nat → Int} : ∀ k a, a + k = (srL r 150).length →
    ((∀ q, a ≤ q → q < (srL r 150).length → fiF (mpP r q).2 (ro (mpP r q).1 ((srL r 150).getD q 0) 1 % 16) ≠ -1) → pkN ((srL r 150).drop a) (mpP r a).1 (mpP r a).2 = some (mpP r (srL r 150).length).1) ∧
    ((∃ q, a ≤ q ∧ q < (srL r 150).length ∧ fiF (mpP r q).2 (ro (mpP r q).1 ((srL r 150).getD q 0) 1 % 16) = -1) → pkN ((srL r 150).drop a) (mpP r a).1 (mpP r a).2 = none) := by
  intro k
  induction k with
  | zero =>
    intro a ha
    rw [List.drop_eq_nil_of_le (by omega)]
    refine ⟨fun _ => ?_, fun ⟨q, h1, h2, _⟩ => by omega⟩
    rw [show a = (srL r 150).length by omega]
    rfl
  | succ k ih =>
    intro a ha
    have hlt : a < (srL r 150).length := by omega
    have hd : (srL r 150).drop a = (srL r 150).getD a 0 :: (srL r 150).drop (a + 1) := by
      rw [List.drop_eq_getElem_cons hlt, List.getD_eq_getElem?_getD, List.getElem?_eq_getElem hlt]
      rfl
    obtain ⟨i1, i2⟩ := ih (a + 1) (by omega)
    rw [hd]
    by_cases h : fiF (mpP r a).2 (ro (mpP r a).1 ((srL r 150).getD a 0) 1 % 16) = -1
    · rw [pkN_n h]
      exact ⟨fun q => absurd h (q a (Nat.le_refl a) hlt), fun _ => rfl⟩
    · rw [pkN_c h]
      refine ⟨fun q => i1 (fun q2 h1 h2 => q q2 (by omega) h2), fun ⟨q, h1, h2, h3⟩ => i2 ⟨q, ?_, h2, h3⟩⟩
      by_cases e : q = a
      · subst e; exact absurd h3 h
      · omega
/-- a plan after a tails: where they lie, how far the blocks are filled -/
def plI (r F0 LQ NB0 NS0 : Nat → Int) (a : Nat) : Prop :=
  (∀ q, q < a → ∃ b : Nat, b < 24 ∧ (pnS LQ NB0 NS0 F0 a).1 q = (b : Int) ∧ F0 b = 0 ∧ 0 ≤ (pnS LQ NB0 NS0 F0 a).2.1 q ∧ (pnS LQ NB0 NS0 F0 a).2.1 q + LQ q ≤ (pnS LQ NB0 NS0 F0 a).2.2 b) ∧
  (∀ b, b < 24 → (F0 b = 16 → (pnS LQ NB0 NS0 F0 a).2.2 b = 16) ∧ (F0 b = 0 → 0 ≤ (pnS LQ NB0 NS0 F0 a).2.2 b ∧ (pnS LQ NB0 NS0 F0 a).2.2 b ≤ 16)) ∧
  (∀ q1 q2, q1 < q2 → q2 < a → (pnS LQ NB0 NS0 F0 a).1 q1 = (pnS LQ NB0 NS0 F0 a).1 q2 → (pnS LQ NB0 NS0 F0 a).2.1 q1 + LQ q1 ≤ (pnS LQ NB0 NS0 F0 a).2.1 q2) ∧
  (∀ b : Nat, b < 24 → F0 b = 0 → ((pnS LQ NB0 NS0 F0 a).2.2 b = 0 ↔ ∀ q, q < a → (pnS LQ NB0 NS0 F0 a).1 q ≠ (b : Int))) ∧
  (∀ b, b < 24 → (mpP r a).2 b = if F0 b = 0 then (pnS LQ NB0 NS0 F0 a).2.2 b else -1) ∧
  (∀ q x, q < a → x < 18 → ro (mpP r a).1 ((srL r 150).getD q 0) x = if x = 3 then (pnS LQ NB0 NS0 F0 a).1 q else if x = 4 then (pnS LQ NB0 NS0 F0 a).2.1 q else if x = 5 then wr (ro r ((srL r 150).getD q 0) 5 + 1) else ro r ((srL r 150).getD q 0) x) ∧
  (∀ g x, x < 18 → (∀ q, q < a → (srL r 150).getD q 0 ≠ g) → ro (mpP r a).1 g x = ro r g x) ∧
  (∀ j, j < 27 → (mpP r a).1 j = r j)
theorem plI_0 {r F0 LQ NB0 NS0 : Nat → Int} (h0 : ∀ b, b < 24 → pl0 r b = if F0 b = 0 then 0 else -1) : plI r F0 LQ NB0 NS0 0 := by
  refine ⟨fun q h => absurd h (Nat.not_lt_zero q), fun b hb => ⟨fun h => h, fun h => ?_⟩, fun q1 q2 _ h => absurd h (Nat.not_lt_zero q2), fun b hb h => ⟨fun _ q hq => absurd hq (Nat.not_lt_zero q), fun _ => h⟩, fun b hb => ?_, fun q x h => absurd h (Nat.not_lt_zero q), fun g x _ _ => rfl, fun j _ => rfl⟩
  · show 0 ≤ F0 b ∧ F0 b ≤ 16
    omega
  · show pl0 r b = if F0 b = 0 then F0 b else -1
    rw [h0 b hb]
    split
    · rename_i q; exact q.symm
    · rfl
/-- the same block is found -/
theorem plI_q {r F0 LQ NB0 NS0 : Nat → Int} {a : Nat} (h : plI r F0 LQ NB0 NS0 a) (h16 : ∀ b, b < 24 → F0 b = 0 ∨ F0 b = 16) (hL : 1 ≤ LQ a) : fiF (mpP r a).2 (LQ a) = pnQ (pnS LQ NB0 NS0 F0 a).2.2 (LQ a) := by
  refine firstN_congr 24 (fun b hb => ?_)
  obtain ⟨-, h2, -, -, h5, -⟩ := h
  unfold fiP
  rw [h5 b hb]
  rcases h16 b hb with q | q
  · rw [if_pos q]
    have := (h2 b hb).2 q
    rw [decide_eq_true this.1, Bool.true_and]
  · rw [if_neg (by omega), (h2 b hb).1 q, decide_eq_false (by omega)]
    exact (decide_eq_false (by omega)).symm
theorem plI_s {r F0 LQ NB0 NS0 : Nat → Int} {a : Nat} (h : plI r F0 LQ NB0 NS0 a) (ha : a < (srL r 150).length) (h16 : ∀ b, b < 24 → F0 b = 0 ∨ F0 b = 16) (hL : 1 ≤ LQ a ∧ LQ a < 16) (hLr : LQ a = ro r ((srL r 150).getD a 0) 1 % 16) (hq : pnQ (pnS LQ NB0 NS0 F0 a).2.2 (LQ a) ≠ -1) : plI r F0 LQ NB0 NS0 (a + 1) := by
  have hqq := plI_q h h16 hL.1
  obtain ⟨h1, h2, h3, h4, h5, h6, h7, h8⟩ := h
  obtain ⟨g1, g2, g3⟩ := pnQ_ok hq
  obtain ⟨b0, hb0⟩ : ∃ b0 : Nat, pnQ (pnS LQ NB0 NS0 F0 a).2.2 (LQ a) = (b0 : Int) := ⟨_, (Int.toNat_of_nonneg g3).symm⟩
  have hgl : ro (mpP r a).1 ((srL r 150).getD a 0) 1 = ro r ((srL r 150).getD a 0) 1 := h7 _ 1 (by decide) (fun q hq2 e => by
    have := srL_inj (by omega) ha e
    omega)
  have e1 : pnS LQ NB0 NS0 F0 (a + 1) = (rs (pnS LQ NB0 NS0 F0 a).1 a (b0 : Int), rs (pnS LQ NB0 NS0 F0 a).2.1 a ((pnS LQ NB0 NS0 F0 a).2.2 b0), rs (pnS LQ NB0 NS0 F0 a).2.2 b0 ((pnS LQ NB0 NS0 F0 a).2.2 b0 + LQ a)) := by
    have : pnS LQ NB0 NS0 F0 (a + 1) = (rs (pnS LQ NB0 NS0 F0 a).1 a (pnQ (pnS LQ NB0 NS0 F0 a).2.2 (LQ a)), rs (pnS LQ NB0 NS0 F0 a).2.1 a ((pnS LQ NB0 NS0 F0 a).2.2 (pnQ (pnS LQ NB0 NS0 F0 a).2.2 (LQ a)).toNat), rs (pnS LQ NB0 NS0 F0 a).2.2 (pnQ (pnS LQ NB0 NS0 F0 a).2.2 (LQ a)).toNat ((pnS LQ NB0 NS0 F0 a).2.2 (pnQ (pnS LQ NB0 NS0 F0 a).2.2 (LQ a)).toNat + LQ a)) := rfl
    rw [this, hb0, Int.toNat_natCast]
  rw [hb0, Int.toNat_natCast] at g1 g2
  have hf0 : F0 b0 = 0 := by
    rcases h16 b0 g1 with q | q
    · exact q
    · have := (h2 b0 g1).1 q
      omega
  have hF0 := (h2 b0 g1).2 hf0
  have hmF : (mpP r a).2 b0 = (pnS LQ NB0 NS0 F0 a).2.2 b0 := by rw [h5 b0 g1, if_pos hf0]
  have e2 : (mpP r (a + 1)).2 = rs (mpP r a).2 b0 ((pnS LQ NB0 NS0 F0 a).2.2 b0 + LQ a) := by
    show pkFl (mpP r a).1 (mpP r a).2 ((srL r 150).getD a 0) = _
    unfold pkFl
    rw [hgl, ← hLr, hqq, hb0, Int.toNat_natCast, hmF]
  have e3 : ∀ g x, x < 18 → ro (mpP r (a + 1)).1 g x = if g = (srL r 150).getD a 0 ∧ x = 5 then wr (ro (mpP r a).1 ((srL r 150).getD a 0) 5 + 1) else if g = (srL r 150).getD a 0 ∧ x = 4 then (pnS LQ NB0 NS0 F0 a).2.2 b0 else if g = (srL r 150).getD a 0 ∧ x = 3 then (b0 : Int) else ro (mpP r a).1 g x := fun g x hx => by
    show ro (pkR (mpP r a).1 (mpP r a).2 ((srL r 150).getD a 0)) g x = _
    rw [pkR_ro hx, hgl, ← hLr, hqq, hb0, Int.toNat_natCast, hmF]
  unfold plI
  rw [e1, e2]
  dsimp only
  refine ⟨fun q hq2 => ?_, fun b hb => ?_, fun q1 q2 hq12 hq2 he => ?_, fun b hb hf => ?_, fun b hb => ?_, fun q x hq2 hx => ?_, fun g x hx hg => ?_, fun j hj => ?_⟩
  · by_cases e : q = a
    · subst e
      exact ⟨b0, g1, rs_eq _ _ _, hf0, by rw [rs_eq]; exact hF0.1, by rw [rs_eq, rs_eq]; omega⟩
    · obtain ⟨b, c1, c2, c3, c4, c5⟩ := h1 q (by omega)
      refine ⟨b, c1, by rw [rs_ne e]; exact c2, c3, by rw [rs_ne e]; exact c4, ?_⟩
      rw [rs_ne e]
      by_cases eb : b = b0
      · subst eb; rw [rs_eq]; omega
      · rw [rs_ne eb]; exact c5
  · by_cases eb : b = b0
    · subst eb; rw [rs_eq]; omega
    · rw [rs_ne eb]; exact h2 b hb
  · by_cases e : q2 = a
    · subst e
      rw [rs_ne (show q1 ≠ q2 by omega), rs_eq] at he
      rw [rs_ne (show q1 ≠ q2 by omega), rs_eq]
      obtain ⟨b, c1, c2, c3, c4, c5⟩ := h1 q1 hq12
      have : b = b0 := by omega
      subst this
      exact c5
    · rw [rs_ne (show q1 ≠ a by omega), rs_ne e] at he
      rw [rs_ne (show q1 ≠ a by omega), rs_ne e]
      exact h3 q1 q2 hq12 (by omega) he
  · by_cases eb : b = b0
    · subst eb
      rw [rs_eq]
      refine ⟨fun q => by omega, fun q => absurd (rs_eq _ _ _) (q a (Nat.lt_succ_self a))⟩
    · rw [rs_ne eb, h4 b hb hf]
      constructor
      · intro q q2 hq2
        by_cases e : q2 = a
        · subst e; rw [rs_eq]; omega
        · rw [rs_ne e]; exact q q2 (by omega)
      · intro q q2 hq2
        have := q q2 (by omega)
        rw [rs_ne (by omega)] at this
        exact this
  · by_cases eb : b = b0
    · subst eb; rw [rs_eq, rs_eq, if_pos hf0]
    · rw [rs_ne eb, rs_ne eb]; exact h5 b hb
  · rw [e3 _ x hx]
    by_cases e : q = a
    · subst e
      rw [rs_eq, rs_eq]
      have h5r : ro (mpP r q).1 ((srL r 150).getD q 0) 5 = ro r ((srL r 150).getD q 0) 5 := h7 _ 5 (by decide) (fun q2 hq3 e => by
        have := srL_inj (by omega) ha e
        omega)
      have hxr : ro (mpP r q).1 ((srL r 150).getD q 0) x = ro r ((srL r 150).getD q 0) x := h7 _ x hx (fun q2 hq3 e => by
        have := srL_inj (by omega) ha e
        omega)
      rw [h5r, hxr]
      by_cases x3 : x = 3
      · rw [if_neg (by omega), if_neg (by omega), if_pos ⟨rfl, x3⟩, if_pos x3]
      · by_cases x4 : x = 4
        · rw [if_neg (by omega), if_pos ⟨rfl, x4⟩, if_neg x3, if_pos x4]
        · by_cases x5 : x = 5
          · rw [if_pos ⟨rfl, x5⟩, if_neg x3, if_neg x4, if_pos x5]
          · rw [if_neg (by omega), if_neg (by omega), if_neg (by omega), if_neg x3, if_neg x4, if_neg x5]
    · have hne : (srL r 150).getD q 0 ≠ (srL r 150).getD a 0 := fun e2 => e (srL_inj (by omega) ha e2)
      rw [if_neg (fun c => hne c.1), if_neg (fun c => hne c.1), if_neg (fun c => hne c.1), rs_ne e, rs_ne e]
      exact h6 q x (by omega) hx
  · have hne : g ≠ (srL r 150).getD a 0 := fun e => hg a (Nat.lt_succ_self a) e.symm
    rw [e3 g x hx, if_neg (fun c => hne c.1), if_neg (fun c => hne c.1), if_neg (fun c => hne c.1)]
    exact h7 g x hx (fun q hq2 => hg q (by omega))
  · show pkR (mpP r a).1 (mpP r a).2 ((srL r 150).getD a 0) j = r j
    rw [pkR_b hj]
    exact h8 j hj
theorem fzN_at {R : Nat → Int} : ∀ n, n ≤ 24 → (∀ g w, ro (fzN R n) g w = ro R g w) ∧ (∀ b, b < 24 → fzN R n (3 + b) = if b < n ∧ R (3 + b) = 2 ∧ tiF R (b : Int) ≤ 0 then 0 else R (3 + b)) ∧ ∀ j, j < 3 → fzN R n j = R j := by
  intro n
  induction n with
  | zero => intro _; exact ⟨fun _ _ => rfl, fun b _ => (if_neg (fun q => Nat.not_lt_zero b q.1)).symm, fun _ _ => rfl⟩
  | succ n ih =>
    intro hn
    obtain ⟨i1, i2, i3⟩ := ih (by omega)
    have ht : tiF (fzN R n) (n : Int) = tiF R (n : Int) := sumN_congr 10 (fun g _ => by rw [hasT_congr (R2 := R) (fun w _ => i1 g w)])
    have hb := i2 n (by omega)
    rw [if_neg (fun q => Nat.lt_irrefl n q.1)] at hb
    have e : fzN R (n + 1) = frR (fzN R n) n := rfl
    rw [e]
    refine ⟨fun g w => by rw [frR_ro (by omega)]; exact i1 g w, fun b hb2 => ?_, fun j hj => by rw [frR_lo hj]; exact i3 j hj⟩
    unfold frR frC
    rw [hb, ht]
    by_cases eb : b = n
    · subst eb
      by_cases hc : R (3 + b) = 2 ∧ tiF R (b : Int) ≤ 0
      · rw [if_pos (decide_eq_true hc), rs_eq, if_pos ⟨Nat.lt_succ_self b, hc⟩]
      · rw [decide_eq_false hc, if_neg Bool.false_ne_true, hb, if_neg (fun q => hc q.2)]
    · have hrest : fzN R n (3 + b) = if b < n + 1 ∧ R (3 + b) = 2 ∧ tiF R (b : Int) ≤ 0 then 0 else R (3 + b) := by
        rw [i2 b hb2]
        by_cases hc : b < n ∧ R (3 + b) = 2 ∧ tiF R (b : Int) ≤ 0
        · rw [if_pos hc, if_pos ⟨by omega, hc.2⟩]
        · rw [if_neg hc, if_neg (fun q => hc ⟨by omega, q.2⟩)]
      split
      · rw [rs_ne (by omega)]; exact hrest
      · exact hrest
theorem feI_at {K Z B S : Nat → Int} : ∀ n b, feI K Z B S n b = if b < n ∧ K b = 2 ∧ tkA Z B S (b : Int) (-1) = 0 then 0 else K b := by
  intro n
  induction n with
  | zero => intro b; exact (if_neg (fun q => Nat.not_lt_zero b q.1)).symm
  | succ n ih =>
    intro b
    have hb := ih n
    rw [if_neg (fun q => Nat.lt_irrefl n q.1)] at hb
    have e : feI K Z B S (n + 1) = feK (feI K Z B S n) Z B S n := rfl
    rw [e]
    unfold feK
    rw [hb]
    by_cases eb : b = n
    · subst eb
      by_cases hc : K b = 2 ∧ tkA Z B S (b : Int) (-1) = 0
      · rw [if_pos hc, rs_eq, if_pos ⟨Nat.lt_succ_self b, hc⟩]
      · rw [if_neg hc, hb, if_neg (fun q => hc q.2)]
    · have hrest : feI K Z B S n b = if b < n + 1 ∧ K b = 2 ∧ tkA Z B S (b : Int) (-1) = 0 then 0 else K b := by
        rw [ih b]
        by_cases hc : b < n ∧ K b = 2 ∧ tkA Z B S (b : Int) (-1) = 0
        · rw [if_pos hc, if_pos ⟨by omega, hc.2⟩]
        · rw [if_neg hc, if_neg (fun q => hc ⟨by omega, q.2⟩)]
      split
      · rw [rs_ne eb]; exact hrest
      · exact hrest
section REL
variable {K O Rk Z B S W P r : Nat → Int}
theorem DR.pl0 (H : DR K O Rk Z B S W P r) {b : Nat} (hb : b < 24) : CTailBlocksLaw_law_r6291_d6fea3.pl0 r b = if tpB K B W b = true then 0 else -1 := by
  have ho : orN (hldB r (b : Int)) 10 = orB (fun f => decide (W f = 1) && decide (B f = (b : Int))) 10 := by
    have h1 : ∀ n, n ≤ 10 → orN (hldB r (b : Int)) n = orB (fun f => decide (W f = 1) && decide (B f = (b : Int))) n := by
      intro n
      induction n with
      | zero => intro _; rfl
      | succ n ih =>
        intro hn
        show (orN (hldB r (b : Int)) n || hldB r (b : Int) n) = (orB (fun f => decide (W f = 1) && decide (B f = (b : Int))) n || (decide (W n = 1) && decide (B n = (b : Int))))
        rw [ih (by omega)]
        congr 1
        unfold hldB
        have hF := H.1 n (by omega)
        rw [hF.tail (by omega)]
        by_cases hB : B n = (b : Int)
        · obtain ⟨-, -, e2, -⟩ := hF.tl (by omega)
          rw [decide_eq_true hB, Bool.true_and, Bool.and_true, e2]
        · rw [decide_eq_false hB, Bool.false_and, Bool.and_false]
    exact h1 10 (Nat.le_refl _)
  unfold CTailBlocksLaw_law_r6291_d6fea3.pl0 tpB
  rw [ho, ← H.kind hb]
  by_cases h2 : K b = 2
  · rw [decide_eq_true h2, Bool.and_true]
    cases orB (fun f => decide (W f = 1) && decide (B f = (b : Int))) 10 with
    | false => rw [if_pos ⟨h2, rfl⟩]; rfl
    | true => rw [if_neg (fun q => by cases q.2)]; rfl
  · rw [decide_eq_false h2, Bool.and_false, if_neg (fun q => h2 q.1)]
    rfl
theorem DR.tpB1 (H : DR K O Rk Z B S W P r) {b : Nat} (h : tpB K B W b = true) : K b = 2 ∧ ∀ f, f < 10 → B f = (b : Int) → W f ≠ 1 := by
  unfold tpB at h
  obtain ⟨h1, h2⟩ := Bool.and_eq_true_iff.mp h
  refine ⟨of_decide_eq_true h2, fun f hf hB hW => ?_⟩
  have h3 : orB (fun f => decide (W f = 1) && decide (B f = (b : Int))) 10 = true := orB_t (p := fun f => decide (W f = 1) && decide (B f = (b : Int))) hf (by rw [decide_eq_true hW, decide_eq_true hB]; rfl)
  rw [h3] at h1
  cases h1
theorem DR.tpB0 {b : Nat} (h2 : K b = 2) (h : tpB K B W b = false) : ∃ f, f < 10 ∧ B f = (b : Int) ∧ W f = 1 := by
  refine Decidable.byContradiction fun hno => ?_
  have h3 : orB (fun f => decide (W f = 1) && decide (B f = (b : Int))) 10 = false := orB_f (fun j hj => by
    by_cases hW : W j = 1
    · rw [decide_eq_true hW, Bool.true_and]
      exact decide_eq_false (fun q => hno ⟨j, hj, q, hW⟩)
    · rw [decide_eq_false hW]
      rfl)
  unfold tpB at h
  rw [h3, decide_eq_true h2] at h
  cases h
theorem co_at {EQ NB NS P S B K : Nat → Int} {n : Nat} (hn : n ≤ (srL r 150).length) (hE : ∀ q, q < n → EQ q = (((srL r 150).getD q 0 : Nat) : Int)) (hNB : ∀ q, q < n → ∃ b : Nat, b < 24 ∧ NB q = (b : Int) ∧ K b = 2) : ∀ a, a ≤ n →
    (∀ q, q < a → (coI EQ NB NS P S B K a).1 ((srL r 150).getD q 0) = wr (P ((srL r 150).getD q 0) + 1) ∧ (coI EQ NB NS P S B K a).2.1 ((srL r 150).getD q 0) = NS q ∧ (coI EQ NB NS P S B K a).2.2.1 ((srL r 150).getD q 0) = NB q) ∧
    (∀ g, (∀ q, q < a → (srL r 150).getD q 0 ≠ g) → (coI EQ NB NS P S B K a).1 g = P g ∧ (coI EQ NB NS P S B K a).2.1 g = S g ∧ (coI EQ NB NS P S B K a).2.2.1 g = B g) ∧
    (∀ b, b < 24 → (coI EQ NB NS P S B K a).2.2.2 b = K b) := by
  intro a
  induction a with
  | zero => intro _; exact ⟨fun q h => absurd h (Nat.not_lt_zero q), fun g _ => ⟨rfl, rfl, rfl⟩, fun b _ => rfl⟩
  | succ a ih =>
    intro ha
    obtain ⟨i1, i2, i3⟩ := ih (by omega)
    obtain ⟨b0, hb0, hnb, hk⟩ := hNB a (by omega)
    have e : coI EQ NB NS P S B K (a + 1) = (rs (coI EQ NB NS P S B K a).1 ((srL r 150).getD a 0) (wr ((coI EQ NB NS P S B K a).1 ((srL r 150).getD a 0) + 1)), rs (coI EQ NB NS P S B K a).2.1 ((srL r 150).getD a 0) (NS a), rs (coI EQ NB NS P S B K a).2.2.1 ((srL r 150).getD a 0) (NB a), rs (coI EQ NB NS P S B K a).2.2.2 b0 2) := by
      have : coI EQ NB NS P S B K (a + 1) = (rs (coI EQ NB NS P S B K a).1 (EQ a).toNat (wr ((coI EQ NB NS P S B K a).1 (EQ a).toNat + 1)), rs (coI EQ NB NS P S B K a).2.1 (EQ a).toNat (NS a), rs (coI EQ NB NS P S B K a).2.2.1 (EQ a).toNat (NB a), rs (coI EQ NB NS P S B K a).2.2.2 (NB a).toNat 2) := rfl
      rw [this, hE a (by omega), Int.toNat_natCast, show (NB a).toNat = b0 by omega]
    have hself := (i2 ((srL r 150).getD a 0) (fun q hq e2 => by
      have := srL_inj (by omega) (by omega) e2
      omega)).1
    rw [e]
    dsimp only
    refine ⟨fun q hq => ?_, fun g hg => ?_, fun b hb => ?_⟩
    · by_cases eq : q = a
      · subst eq
        rw [rs_eq, rs_eq, rs_eq, hself]
        exact ⟨rfl, rfl, rfl⟩
      · have hne : (srL r 150).getD q 0 ≠ (srL r 150).getD a 0 := fun e2 => eq (srL_inj (by omega) (by omega) e2)
        rw [rs_ne hne, rs_ne hne, rs_ne hne]
        exact i1 q (by omega)
    · have hne : g ≠ (srL r 150).getD a 0 := fun e2 => hg a (Nat.lt_succ_self a) e2.symm
      rw [rs_ne hne, rs_ne hne, rs_ne hne]
      exact i2 g (fun q hq => hg q (by omega))
    · by_cases eb : b = b0
      · subst eb; rw [rs_eq, hk]
      · rw [rs_ne eb]; exact i3 b hb
end REL
