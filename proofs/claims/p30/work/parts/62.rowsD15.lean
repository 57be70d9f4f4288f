/-- the sets up to one, solved -/
def bsI (Lg SB SL : Nat → Int) : Nat → (Nat → Int) × (Nat → Int)
  | 0 => (rs SB 0 0, rs SL 0 16)
  | s + 1 => (rs (bsI Lg SB SL s).1 (s + 1) (soP (bsI Lg SB SL s).1 (bsI Lg SB SL s).2 Lg (s + 1) 10).1, rs (bsI Lg SB SL s).2 (s + 1) (soP (bsI Lg SB SL s).1 (bsI Lg SB SL s).2 Lg (s + 1) 10).2)
theorem bit_lt {s k n : Nat} (hs : s < 2 ^ n) (h : s / 2 ^ k % 2 = 1) : k < n := by
  refine Decidable.byContradiction fun hk => ?_
  have h2 : 2 ^ n ≤ 2 ^ k := Nat.pow_le_pow_right (by decide) (by omega)
  have h3 := bit_le h
  omega
theorem bsI_bd {Lg SB SL : Nat → Int} {n : Nat} (hn : n ≤ 10) (hL : ∀ q, q < n → 0 ≤ Lg q ∧ Lg q < 16) : ∀ s, s < 2 ^ n → ∀ q, q ≤ s → (0 ≤ (bsI Lg SB SL s).1 q ∧ (bsI Lg SB SL s).1 q ≤ 11) ∧ 0 ≤ (bsI Lg SB SL s).2 q ∧ (bsI Lg SB SL s).2 q ≤ 16 := by
  intro s
  induction s with
  | zero =>
    intro _ q hq
    have e : q = 0 := by omega
    subst e
    show (0 ≤ rs SB 0 0 0 ∧ rs SB 0 0 0 ≤ 11) ∧ 0 ≤ rs SL 0 16 0 ∧ rs SL 0 16 0 ≤ 16
    rw [rs_eq, rs_eq]
    decide
  | succ s ih =>
    intro hs q hq
    have h1 := ih (by omega)
    have h2 := soP_bd (SB := (bsI Lg SB SL s).1) (SL := (bsI Lg SB SL s).2) (Lg := Lg) (s := s + 1) (fun q hq => (h1 q (by omega)).1) (fun q hq => (h1 q (by omega)).2) (fun k _ hb => hL k (bit_lt hs hb)) 10 (Nat.le_refl _)
    show (0 ≤ rs (bsI Lg SB SL s).1 (s + 1) _ q ∧ rs (bsI Lg SB SL s).1 (s + 1) _ q ≤ 11) ∧ 0 ≤ rs (bsI Lg SB SL s).2 (s + 1) _ q ∧ rs (bsI Lg SB SL s).2 (s + 1) _ q ≤ 16
    by_cases e : q = s + 1
    · subst e
      rw [rs_eq, rs_eq]
      exact h2
    · rw [rs_ne e, rs_ne e]
      exact h1 q (by omega)
