theorem sorted_eq {α : Type} {R : α → α → Prop} (hirr : ∀ x, ¬ R x x) (has : ∀ x y, R x y → ¬ R y x) : ∀ {l1 l2 : List α}, l1.Pairwise R → l2.Pairwise R → (∀ x, x ∈ l1 ↔ x ∈ l2) → l1 = l2 := by
  intro l1
  induction l1 with
  | nil =>
    intro l2 _ _ h
    cases l2 with
    | nil => rfl
    | cons b u => exact absurd ((h b).mpr List.mem_cons_self) List.not_mem_nil
  | cons a t ih =>
    intro l2 h1 h2 h
    cases l2 with
    | nil => exact absurd ((h a).mp List.mem_cons_self) List.not_mem_nil
    | cons b u =>
      obtain ⟨p1, p2⟩ := List.pairwise_cons.mp h1
      obtain ⟨q1, q2⟩ := List.pairwise_cons.mp h2
      have e : a = b := by
        rcases List.mem_cons.mp ((h a).mp List.mem_cons_self) with e | ha
        · exact e
        · rcases List.mem_cons.mp ((h b).mpr List.mem_cons_self) with e | hb
          · exact e.symm
          · exact absurd (q1 a ha) (has _ _ (p1 b hb))
      subst e
      congr 1
      refine ih p2 q2 (fun x => ⟨fun hx => ?_, fun hx => ?_⟩)
      · rcases List.mem_cons.mp ((h x).mp (List.mem_cons_of_mem _ hx)) with e | h3
        · subst e; exact absurd (p1 x hx) (hirr x)
        · exact h3
      · rcases List.mem_cons.mp ((h x).mpr (List.mem_cons_of_mem _ hx)) with e | h3
        · subst e; exact absurd (q1 x hx) (hirr x)
        · exact h3
/-- before: the longer tail, of equal ones the lower file -/
def sLt (r : Nat → Int) (x y : Nat) : Prop := ro r y 1 % 16 < ro r x 1 % 16 ∨ (ro r x 1 % 16 = ro r y 1 % 16 ∧ x < y)
theorem srL_mem {r : Nat → Int} {f : Nat} : f ∈ srL r 150 ↔ f < 10 ∧ isPk r f = true := by
  constructor
  · intro h
    have := srL_in h
    exact ⟨this.1, this.2.1⟩
  · rintro ⟨hf, hp⟩
    have ht : 0 < ro r f 1 % 16 := by
      unfold isPk at hp
      have h1 := Bool.and_eq_true_iff.mp hp
      have h2 := Bool.and_eq_true_iff.mp h1.2
      exact of_decide_eq_true h2.2
    obtain ⟨a, ha⟩ : ∃ a : Nat, ro r f 1 % 16 = 15 - (a : Int) ∧ a < 15 := ⟨(15 - ro r f 1 % 16).toNat, by omega, by omega⟩
    have hmono : ∀ k j, f ∈ srL r j → f ∈ srL r (j + k) := by
      intro k
      induction k with
      | zero => intro j h; exact h
      | succ k ih =>
        intro j h
        have h3 := ih j h
        show f ∈ srL r (j + k + 1)
        unfold srL
        split
        · exact List.mem_append_left _ h3
        · exact h3
    have h4 : f ∈ srL r (10 * a + f + 1) := by
      rw [srL_t hf (srC_yes hp ha.1)]
      exact List.mem_append_right _ List.mem_cons_self
    have h5 := hmono (150 - (10 * a + f + 1)) _ h4
    rw [show 10 * a + f + 1 + (150 - (10 * a + f + 1)) = 150 by omega] at h5
    exact h5
theorem srL_sorted (r : Nat → Int) : ∀ j, (srL r j).Pairwise (sLt r) := by
  intro j
  induction j with
  | zero => exact List.Pairwise.nil
  | succ j ih =>
    unfold srL
    split
    · rename_i hc
      refine List.pairwise_append.mpr ⟨ih, List.pairwise_singleton _ _, fun g hg h hh => ?_⟩
      have e : h = j % 10 := by simpa using hh
      subst e
      have h1 := srL_in hg
      have h2 : ro r (j % 10) 1 % 16 = 15 - ((j / 10 : Nat) : Int) := by
        unfold srC at hc
        exact of_decide_eq_true (Bool.and_eq_true_iff.mp hc).2
      unfold sLt
      omega
    · exact ih
theorem inL_at (x len : Int) : ∀ (n : Nat) (E Lg : Nat → Int), ∃ p, p ≤ n ∧ (∀ i, i < p → (inL x len n E Lg).1 i = E i ∧ (inL x len n E Lg).2 i = Lg i) ∧ ((inL x len n E Lg).1 p = x ∧ (inL x len n E Lg).2 p = len) ∧ (∀ i, p < i → i ≤ n → (inL x len n E Lg).1 i = E (i - 1) ∧ (inL x len n E Lg).2 i = Lg (i - 1)) ∧ (∀ i, n < i → (inL x len n E Lg).1 i = E i ∧ (inL x len n E Lg).2 i = Lg i) ∧ (∀ i, p ≤ i → i < n → Lg i < len) ∧ (p = 0 ∨ len ≤ Lg (p - 1)) := by
  intro n
  induction n with
  | zero =>
    intro E Lg
    have e : inL x len 0 E Lg = (rs E 0 x, rs Lg 0 len) := rfl
    rw [e]
    exact ⟨0, Nat.le_refl _, fun i h => absurd h (Nat.not_lt_zero i), ⟨rs_eq E 0 x, rs_eq Lg 0 len⟩, fun i h1 h2 => by omega, fun i h => ⟨rs_ne (R := E) (by omega) x, rs_ne (R := Lg) (by omega) len⟩, fun i _ h => absurd h (Nat.not_lt_zero i), Or.inl rfl⟩
  | succ k ih =>
    intro E Lg
    by_cases h : Lg k < len
    · have e : inL x len (k + 1) E Lg = inL x len k (rs E (k + 1) (E k)) (rs Lg (k + 1) (Lg k)) := if_pos h
      obtain ⟨p, a1, a2, a3, a4, a5, a6, a7⟩ := ih (rs E (k + 1) (E k)) (rs Lg (k + 1) (Lg k))
      rw [e]
      refine ⟨p, by omega, fun i hi => ?_, a3, fun i h1 h2 => ?_, fun i hi => ?_, fun i h1 h2 => ?_, ?_⟩
      · obtain ⟨b1, b2⟩ := a2 i hi
        rw [b1, b2]
        exact ⟨rs_ne (by omega) _, rs_ne (by omega) _⟩
      · by_cases e2 : i = k + 1
        · subst e2
          obtain ⟨b1, b2⟩ := a5 (k + 1) (by omega)
          rw [b1, b2, rs_eq, rs_eq]
          exact ⟨rfl, rfl⟩
        · obtain ⟨b1, b2⟩ := a4 i h1 (by omega)
          rw [b1, b2]
          exact ⟨rs_ne (by omega) _, rs_ne (by omega) _⟩
      · obtain ⟨b1, b2⟩ := a5 i (by omega)
        rw [b1, b2]
        exact ⟨rs_ne (by omega) _, rs_ne (by omega) _⟩
      · by_cases e2 : i = k
        · subst e2; exact h
        · have := a6 i h1 (by omega)
          rw [rs_ne (by omega)] at this
          exact this
      · rcases a7 with q | q
        · exact Or.inl q
        · rw [rs_ne (by omega)] at q
          exact Or.inr q
    · have e : inL x len (k + 1) E Lg = (rs E (k + 1) x, rs Lg (k + 1) len) := if_neg h
      rw [e]
      exact ⟨k + 1, Nat.le_refl _, fun i hi => ⟨rs_ne (by omega) _, rs_ne (by omega) _⟩, ⟨rs_eq _ _ _, rs_eq _ _ _⟩, fun i h1 h2 => by omega, fun i hi => ⟨rs_ne (by omega) _, rs_ne (by omega) _⟩, fun i h1 h2 => by omega, Or.inr (by rw [Nat.add_sub_cancel]; omega)⟩
/-- the class's rows hold the packed tails below f, in order -/
def clP (r E Lg : Nat → Int) (n f : Nat) : Prop := (∀ i, i < n → ∃ g : Nat, E i = (g : Int) ∧ g < f ∧ isPk r g = true ∧ Lg i = ro r g 1 % 16) ∧ (∀ i j, i < j → j < n → sLt r (E i).toNat (E j).toNat) ∧ (∀ g, g < f → isPk r g = true → ∃ i, i < n ∧ E i = (g : Int))
theorem clP_s {r E Lg : Nat → Int} {n f : Nat} (h : clP r E Lg n f) (hp : isPk r f = true) : clP r (inL (f : Int) (ro r f 1 % 16) n E Lg).1 (inL (f : Int) (ro r f 1 % 16) n E Lg).2 (n + 1) (f + 1) := by
  obtain ⟨h1, h2, h3⟩ := h
  obtain ⟨p, a1, a2, a3, a4, a5, a6, a7⟩ := inL_at (f : Int) (ro r f 1 % 16) n E Lg
  have hbig : ∀ i, i < p → sLt r (E i).toNat f := fun i hi => by
    obtain ⟨g, b1, b2, b3, b4⟩ := h1 i (by omega)
    have hle : ro r f 1 % 16 ≤ ro r g 1 % 16 := by
      rcases a7 with q | q
      · omega
      · by_cases e : i = p - 1
        · rw [← e] at q; omega
        · obtain ⟨g2, c1, c2, c3, c4⟩ := h1 (p - 1) (by omega)
          have h4 := h2 i (p - 1) (by omega) (by omega)
          rw [b1, c1, Int.toNat_natCast, Int.toNat_natCast] at h4
          unfold sLt at h4
          omega
    rw [b1, Int.toNat_natCast]
    unfold sLt
    omega
  have hsm : ∀ i, p ≤ i → i < n → sLt r f (E i).toNat := fun i h4 h5 => by
    obtain ⟨g, b1, b2, b3, b4⟩ := h1 i h5
    have := a6 i h4 h5
    rw [b1, Int.toNat_natCast]
    unfold sLt
    omega
  refine ⟨fun i hi => ?_, fun i j hij hj => ?_, fun g hg hpg => ?_⟩
  · by_cases e1 : i < p
    · obtain ⟨g, b1, b2, b3, b4⟩ := h1 i (by omega)
      rw [(a2 i e1).1, (a2 i e1).2]
      exact ⟨g, b1, by omega, b3, b4⟩
    · by_cases e2 : i = p
      · subst e2
        rw [a3.1, a3.2]
        exact ⟨f, rfl, by omega, hp, rfl⟩
      · obtain ⟨g, b1, b2, b3, b4⟩ := h1 (i - 1) (by omega)
        rw [(a4 i (by omega) (by omega)).1, (a4 i (by omega) (by omega)).2]
        exact ⟨g, b1, by omega, b3, b4⟩
  · by_cases e1 : j < p
    · rw [(a2 i (by omega)).1, (a2 j e1).1]
      exact h2 i j hij (by omega)
    · by_cases e2 : j = p
      · subst e2
        rw [(a2 i hij).1, a3.1, Int.toNat_natCast]
        exact hbig i hij
      · rw [(a4 j (by omega) (by omega)).1]
        by_cases e3 : i < p
        · rw [(a2 i e3).1]
          exact h2 i (j - 1) (by omega) (by omega)
        · by_cases e4 : i = p
          · subst e4
            rw [a3.1, Int.toNat_natCast]
            exact hsm (j - 1) (by omega) (by omega)
          · rw [(a4 i (by omega) (by omega)).1]
            exact h2 (i - 1) (j - 1) (by omega) (by omega)
  · by_cases e : g = f
    · subst e
      exact ⟨p, by omega, a3.1⟩
    · obtain ⟨i, b1, b2⟩ := h3 g (by omega) hpg
      by_cases e1 : i < p
      · exact ⟨i, by omega, by rw [(a2 i e1).1]; exact b2⟩
      · exact ⟨i + 1, by omega, by rw [(a4 (i + 1) (by omega) (by omega)).1, Nat.add_sub_cancel]; exact b2⟩
theorem clP_n {r E Lg : Nat → Int} {n f : Nat} (h : clP r E Lg n f) (hp : isPk r f = false) : clP r E Lg n (f + 1) := by
  refine ⟨fun i hi => ?_, h.2.1, fun g hg hpg => ?_⟩
  · obtain ⟨g, b1, b2, b3⟩ := h.1 i hi
    exact ⟨g, b1, by omega, b3⟩
  · by_cases e : g = f
    · subst e; rw [hp] at hpg; cases hpg
    · exact h.2.2 g (by omega) hpg
section REL
variable {K O Rk Z B S W P r : Nat → Int}
theorem DR.pk (H : DR K O Rk Z B S W P r) {f : Nat} (hf : f < 10) : (isPk r f = true → 0 < clT Z W f ∧ clT Z W f = ro r f 1 % 16 ∧ Z f ≠ -1 ∧ W f = 0 ∧ B f ≠ -1) ∧ (isPk r f = false → ¬ 0 < clT Z W f) := by
  unfold clT
  rcases H.1 f hf with ⟨h0, -, h1, -⟩ | ⟨h0, e1, h1, e2, h2, e5, e4, h3⟩
  · rw [isPk_no (Or.inl (by omega)), if_neg (fun q => q.1 h1), if_pos h1]
    exact ⟨fun q => absurd q Bool.false_ne_true, fun _ => by decide⟩
  · rcases h2 with h2 | h2
    · rw [isPk_yes h0 (by omega), if_neg (by omega), if_neg (by omega), ← e1]
      refine ⟨fun q => ?_, fun q => of_decide_eq_false q⟩
      have q := of_decide_eq_true q
      refine ⟨q, rfl, by omega, h2, ?_⟩
      rcases h3 with h3 | h3 <;> omega
    · rw [isPk_no (Or.inr (by omega)), if_pos ⟨by omega, h2⟩]
      exact ⟨fun q => absurd q Bool.false_ne_true, fun _ => by decide⟩
theorem DR.clp (H : DR K O Rk Z B S W P r) (E Lg : Nat → Int) : ∀ f, f ≤ 10 → clP r (clI Z W E Lg f).1 (clI Z W E Lg f).2.1 (clI Z W E Lg f).2.2 f := by
  intro f
  induction f with
  | zero => intro _; exact ⟨fun i h => absurd h (Nat.not_lt_zero i), fun i j _ h => absurd h (Nat.not_lt_zero j), fun g h => absurd h (Nat.not_lt_zero g)⟩
  | succ f ih =>
    intro hf
    have h := ih (by omega)
    obtain ⟨p1, p2⟩ := H.pk (f := f) (by omega)
    cases hp : isPk r f with
    | false =>
      have e : clI Z W E Lg (f + 1) = clI Z W E Lg f := if_neg (p2 hp)
      rw [e]
      exact clP_n h hp
    | true =>
      obtain ⟨q1, q2, -⟩ := p1 hp
      have e : clI Z W E Lg (f + 1) = ((inL (f : Int) (clT Z W f) (clI Z W E Lg f).2.2 (clI Z W E Lg f).1 (clI Z W E Lg f).2.1).1, (inL (f : Int) (clT Z W f) (clI Z W E Lg f).2.2 (clI Z W E Lg f).1 (clI Z W E Lg f).2.1).2, (clI Z W E Lg f).2.2 + 1) := if_pos q1
      rw [e, q2]
      exact clP_s h hp
theorem DR.srt (H : DR K O Rk Z B S W P r) (E Lg : Nat → Int) : (clI Z W E Lg 10).2.2 = (srL r 150).length ∧ ∀ i, i < (srL r 150).length → (clI Z W E Lg 10).1 i = (((srL r 150).getD i 0 : Nat) : Int) ∧ (clI Z W E Lg 10).2.1 i = ro r ((srL r 150).getD i 0) 1 % 16 := by
  obtain ⟨h1, h2, h3⟩ := H.clp E Lg 10 (Nat.le_refl _)
  have hl : (List.range (clI Z W E Lg 10).2.2).map (fun i => ((clI Z W E Lg 10).1 i).toNat) = srL r 150 := by
    refine sorted_eq (R := sLt r) (fun x q => by unfold sLt at q; omega) (fun x y q q2 => by unfold sLt at q q2; omega) ?_ (srL_sorted r 150) (fun x => ?_)
    · rw [List.pairwise_map]
      refine List.Pairwise.imp_of_mem ?_ (List.pairwise_lt_range)
      intro i j _ hj hij
      exact h2 i j hij (List.mem_range.mp hj)
    · rw [srL_mem, List.mem_map]
      constructor
      · rintro ⟨i, hi, rfl⟩
        obtain ⟨g, b1, b2, b3, -⟩ := h1 i (List.mem_range.mp hi)
        rw [b1, Int.toNat_natCast]
        exact ⟨b2, b3⟩
      · rintro ⟨hx, hp⟩
        obtain ⟨i, hi, he⟩ := h3 x hx hp
        exact ⟨i, List.mem_range.mpr hi, by rw [he, Int.toNat_natCast]⟩
  have hlen : (clI Z W E Lg 10).2.2 = (srL r 150).length := by rw [← hl, List.length_map, List.length_range]
  refine ⟨hlen, fun i hi => ?_⟩
  obtain ⟨g, b1, b2, b3, b4⟩ := h1 i (by omega)
  have hg : (srL r 150).getD i 0 = g := by
    rw [← hl, List.getD_eq_getElem?_getD, List.getElem?_map, List.getElem?_range (by omega)]
    show ((clI Z W E Lg 10).1 i).toNat = g
    rw [b1, Int.toNat_natCast]
  rw [hg]
  exact ⟨b1, b4⟩
theorem DR.srp (H : DR K O Rk Z B S W P r) {i : Nat} (hi : i < (srL r 150).length) : (srL r 150).getD i 0 < 10 ∧ isPk r ((srL r 150).getD i 0) = true ∧ 0 < ro r ((srL r 150).getD i 0) 1 % 16 ∧ ro r ((srL r 150).getD i 0) 1 % 16 < 16 := by
  have hm : (srL r 150).getD i 0 ∈ srL r 150 := by
    rw [List.getD_eq_getElem?_getD, List.getElem?_eq_getElem hi]
    exact List.getElem_mem hi
  obtain ⟨h1, h2⟩ := srL_mem.mp hm
  obtain ⟨q1, q2, -⟩ := (H.pk h1).1 h2
  exact ⟨h1, h2, by omega, by omega⟩
/-- the tails' lengths lie in their range -/
theorem DR.srb (H : DR K O Rk Z B S W P r) (E Lg : Nat → Int) : ∀ q, q < (clI Z W E Lg 10).2.2 → 0 ≤ (clI Z W E Lg 10).2.1 q ∧ (clI Z W E Lg 10).2.1 q < 16 := fun q hq => by
  obtain ⟨h1, h2⟩ := H.srt E Lg
  rw [h1] at hq
  have h3 := (H.srp hq).2.2
  rw [(h2 q hq).2]
  omega
theorem srL_inj {r : Nat → Int} {i j : Nat} (hi : i < (srL r 150).length) (hj : j < (srL r 150).length) (h : (srL r 150).getD i 0 = (srL r 150).getD j 0) : i = j := by
  rw [List.getD_eq_getElem?_getD, List.getD_eq_getElem?_getD, List.getElem?_eq_getElem hi, List.getElem?_eq_getElem hj] at h
  have h : (srL r 150)[i] = (srL r 150)[j] := h
  have hn : (srL r 150).Pairwise (fun x y => x ≠ y) := srL_nd r 150
  have hp := List.pairwise_iff_getElem.mp hn
  refine Decidable.byContradiction fun hne => ?_
  rcases (show i < j ∨ j < i by omega) with q | q
  · exact hp i j hi hj q h
  · exact hp j i hj hi q h.symm
end REL
