def flN (K B W F : Nat → Int) : Nat → (Nat → Int)
  | 0 => F
  | b + 1 => rs (flN K B W F b) b (if tpB K B W b = true then 0 else 16)
theorem flN_at (K B W F : Nat → Int) : ∀ n b, b < n → flN K B W F n b = if tpB K B W b = true then 0 else 16 := by
  intro n
  induction n with
  | zero => intro b h; omega
  | succ n ih =>
    intro b h
    show rs (flN K B W F n) n _ b = _
    by_cases e : b = n
    · subst e
      rw [rs_eq]
    · rw [rs_ne e]
      exact ih b (by omega)
/-- the first block with room -/
def pnQ (F : Nat → Int) (len : Int) : Int := firstN (fun b => decide (F b + len ≤ 16)) 24
/-- a plan: the blocks, the starts, how far the blocks are filled -/
def pnS (Lg NB NS F : Nat → Int) : Nat → (Nat → Int) × ((Nat → Int) × (Nat → Int))
  | 0 => (NB, NS, F)
  | a + 1 =>
    (rs (pnS Lg NB NS F a).1 a (pnQ (pnS Lg NB NS F a).2.2 (Lg a)),
     rs (pnS Lg NB NS F a).2.1 a ((pnS Lg NB NS F a).2.2 (pnQ (pnS Lg NB NS F a).2.2 (Lg a)).toNat),
     rs (pnS Lg NB NS F a).2.2 (pnQ (pnS Lg NB NS F a).2.2 (Lg a)).toNat ((pnS Lg NB NS F a).2.2 (pnQ (pnS Lg NB NS F a).2.2 (Lg a)).toNat + Lg a))
def pnN (Lg NB NS F : Nat → Int) (a : Nat) : Bool := decide (pnQ (pnS Lg NB NS F a).2.2 (Lg a) = -1)
theorem pnQ_ok {F : Nat → Int} {len : Int} (h : pnQ F len ≠ -1) : (pnQ F len).toNat < 24 ∧ F (pnQ F len).toNat + len ≤ 16 ∧ 0 ≤ pnQ F len := by
  unfold pnQ at h ⊢
  rcases firstN_cases (fun b => decide (F b + len ≤ 16)) 24 with ⟨h1, -⟩ | ⟨i, h1, h2, h3, -⟩
  · exact absurd h1 h
  · rw [h2, Int.toNat_natCast]
    exact ⟨h1, of_decide_eq_true h3, by omega⟩
theorem pnS_bd {Lg NB NS F : Nat → Int} {n : Nat} (hL : ∀ q, q < n → 0 ≤ Lg q ∧ Lg q < 16) (hF : ∀ b, b < 24 → 0 ≤ F b ∧ F b ≤ 16) : ∀ a, a ≤ n → (∀ j, j < a → pnN Lg NB NS F j = false) → ∀ b, b < 24 → 0 ≤ (pnS Lg NB NS F a).2.2 b ∧ (pnS Lg NB NS F a).2.2 b ≤ 16 := by
  intro a
  induction a with
  | zero => intro _ _; exact hF
  | succ a ih =>
    intro ha hj b hb
    have h1 := ih (by omega) (fun j hj2 => hj j (by omega))
    have h2 := pnQ_ok (of_decide_eq_false (hj a (by omega)))
    have h3 := hL a (by omega)
    show 0 ≤ rs (pnS Lg NB NS F a).2.2 _ _ b ∧ rs (pnS Lg NB NS F a).2.2 _ _ b ≤ 16
    by_cases e : b = (pnQ (pnS Lg NB NS F a).2.2 (Lg a)).toNat
    · rw [← e, rs_eq]
      have h4 := h1 b hb
      rw [← e] at h2
      omega
    · rw [rs_ne e]
      exact h1 b hb
def emN (F : Nat → Int) : Int := sumN (fun b => Bi (decide (F b = 0))) 24
