-- what goes on while a test holds
def itN {α : Type} (c : α → Bool) (t : α → α) (S : α) : Nat → α
  | 0 => S
  | i + 1 => if c (itN c t S i) = true then t (itN c t S i) else itN c t S i
theorem itN_t {α : Type} {c : α → Bool} {t : α → α} {S : α} {i : Nat} (h : c (itN c t S i) = true) : itN c t S (i + 1) = t (itN c t S i) := if_pos h
theorem itN_f {α : Type} {c : α → Bool} {t : α → α} {S : α} {i : Nat} (h : c (itN c t S i) = false) : itN c t S (i + 1) = itN c t S i := if_neg (by rw [h]; decide)
theorem itN_mu {α : Type} {c : α → Bool} {t : α → α} {S : α} {mu : α → Nat} (ht : ∀ S, c S = true → c (t S) = true → mu S + 1 ≤ mu (t S)) : ∀ i, c (itN c t S i) = true → mu S + i ≤ mu (itN c t S i) := by
  intro i
  induction i with
  | zero => intro _; exact Nat.le_refl _
  | succ i ih =>
    intro h
    cases h1 : c (itN c t S i) with
    | false =>
      rw [itN_f h1, h1] at h
      exact absurd h (by decide)
    | true =>
      have h2 := ih h1
      have h4 := h
      rw [itN_t h1] at h4
      have h3 := ht _ h1 h4
      rw [itN_t h1]
      omega
theorem itN_inv {α : Type} {c : α → Bool} {t : α → α} {S : α} {I : α → Prop} (h0 : I S) (ht : ∀ S, c S = true → I S → I (t S)) : ∀ i, I (itN c t S i) := by
  intro i
  induction i with
  | zero => exact h0
  | succ i ih =>
    cases h1 : c (itN c t S i) with
    | false => rw [itN_f h1]; exact ih
    | true => rw [itN_t h1]; exact ht _ h1 ih
-- the text's places
def pSee (U : Nat → Int) (n p : Nat) (a b : Int) : Bool := decide (p < n) && inB (U p) a b
theorem pSee_lt {U : Nat → Int} {n p : Nat} {a b : Int} (h : pSee U n p a b = true) : p < n ∧ a ≤ U p ∧ U p ≤ b := by
  unfold pSee inB at h
  simp only [Bool.and_eq_true, decide_eq_true_eq] at h
  omega
theorem pSee_yes {U : Nat → Int} {n p : Nat} {a b : Int} (h : p < n) : pSee U n p a b = inB (U p) a b := by
  unfold pSee
  rw [decide_eq_true h, Bool.true_and]
def pDp (U : Nat → Int) (n p : Nat) (l : Int) : Nat := if pSee U n p (48 + l) 57 = true then p + 1 else p
def pDh (U : Nat → Int) (n p : Nat) (H : Nat → Int) (k : Nat) (l : Int) : Nat → Int := if pSee U n p (48 + l) 57 = true then rs H k (U p - 48) else H
def nuC (U : Nat → Int) (n k : Nat) (S : Nat × (Nat → Int)) : Bool := decide (0 < S.2 k) && (pSee U n S.1 48 57 && decide (10 * S.2 k + U S.1 - 48 ≤ 200))
def nuT (U : Nat → Int) (k : Nat) (S : Nat × (Nat → Int)) : Nat × (Nat → Int) := (S.1 + 1, rs S.2 k (10 * S.2 k + U S.1 - 48))
def nuI (U : Nat → Int) (n k p : Nat) (H : Nat → Int) (i : Nat) : Nat × (Nat → Int) := itN (nuC U n k) (nuT U k) (p + 1, rs H k (U p - 48)) i
theorem nuI_bd {U : Nat → Int} {n k p : Nat} {H : Nat → Int} {l : Int} (hl : 0 ≤ l) (h : pSee U n p (48 + l) 57 = true) (i : Nat) : (nuI U n k p H i).1 ≤ n ∧ 0 ≤ (nuI U n k p H i).2 k ∧ (nuI U n k p H i).2 k ≤ 200 := by
  have h1 := pSee_lt h
  refine itN_inv (I := fun S : Nat × (Nat → Int) => S.1 ≤ n ∧ 0 ≤ S.2 k ∧ S.2 k ≤ 200) ⟨by show p + 1 ≤ n; omega, ?_⟩ ?_ i
  · show 0 ≤ rs H k (U p - 48) k ∧ rs H k (U p - 48) k ≤ 200
    rw [rs_eq]
    omega
  · intro S hc hS
    unfold nuC at hc
    simp only [Bool.and_eq_true, decide_eq_true_eq] at hc
    have h2 := pSee_lt hc.2.1
    refine ⟨by show S.1 + 1 ≤ n; omega, ?_⟩
    show 0 ≤ rs S.2 k (10 * S.2 k + U S.1 - 48) k ∧ rs S.2 k (10 * S.2 k + U S.1 - 48) k ≤ 200
    rw [rs_eq]
    omega
theorem nuI_mu {U : Nat → Int} {n k p : Nat} {H : Nat → Int} {i : Nat} (h : nuC U n k (nuI U n k p H i) = true) : p + 1 + i ≤ (nuI U n k p H i).1 := itN_mu (mu := fun S => S.1) (fun S _ _ => Nat.le_refl _) i h
theorem nuI_s {U : Nat → Int} {n k p : Nat} {H : Nat → Int} {i : Nat} (h : nuC U n k (nuI U n k p H i) = true) : nuI U n k p H (i + 1) = ((nuI U n k p H i).1 + 1, rs (nuI U n k p H i).2 k (10 * (nuI U n k p H i).2 k + U (nuI U n k p H i).1 - 48)) := itN_t h
theorem nuC_t {U : Nat → Int} {n k : Nat} {S : Nat × (Nat → Int)} (h0 : 0 < S.2 k) (h : pSee U n S.1 48 57 = true) (h2 : 10 * S.2 k + U S.1 - 48 ≤ 200) : nuC U n k S = true := by
  unfold nuC
  rw [h, decide_eq_true h0, decide_eq_true h2]
  rfl
def pNp (U : Nat → Int) (n p : Nat) (H : Nat → Int) (k : Nat) (l : Int) : Nat := if pSee U n p (48 + l) 57 = true then (nuI U n k p H 60).1 else p
def pNh (U : Nat → Int) (n p : Nat) (H : Nat → Int) (k : Nat) (l : Int) : Nat → Int := if pSee U n p (48 + l) 57 = true then (nuI U n k p H 60).2 else H
/-- an order's numbers: is it well, where it ends, the numbers -/
def pRdS (U : Nat → Int) (n : Nat) (x : Int) (p : Nat) (H : Nat → Int) : Bool × (Nat × (Nat → Int)) :=
  if x = 43 then (pSee U n p (48 + 0) 57, pNp U n p H 0 0, pNh U n p H 0 0)
  else if x = 45 then (pSee U n p (48 + 0) 57, pDp U n p 0, pDh U n p H 0 0)
  else if pSee U n p (48 + 0) 57 = true then
    (if pSee U n (p + 1) 58 58 = true then (pSee U n (p + 2) (48 + 1) 57, pNp U n (p + 2) (rs H 0 (U p - 48)) 1 1, pNh U n (p + 2) (rs H 0 (U p - 48)) 1 1) else (false, p + 1, rs H 0 (U p - 48)))
  else (false, p, H)
def pSg (x : Int) : Bool := decide (x = 43 ∨ x = 45 ∨ x = 60 ∨ x = 62)
def pRk (U : Nat → Int) (n p : Nat) (H : Nat → Int) : Int := if (decide (p < n) && pSg (U p)) = true then (if (pRdS U n (U p) (p + 1) H).1 = true then U p else 0) else 0
def pRp (U : Nat → Int) (n p : Nat) (H : Nat → Int) : Nat := if (decide (p < n) && pSg (U p)) = true then (pRdS U n (U p) (p + 1) H).2.1 else p
def pRh (U : Nat → Int) (n p : Nat) (H : Nat → Int) : Nat → Int := if (decide (p < n) && pSg (U p)) = true then (pRdS U n (U p) (p + 1) H).2.2 else H
theorem pNp_bd {U : Nat → Int} {n p : Nat} {H : Nat → Int} {k : Nat} {l : Int} (hl : 0 ≤ l) (hp : p ≤ n) : p ≤ pNp U n p H k l ∧ pNp U n p H k l ≤ n := by
  unfold pNp
  by_cases h : pSee U n p (48 + l) 57 = true
  · rw [if_pos h]
    have h2 : ∀ m, p ≤ (nuI U n k p H m).1 := fun m => itN_inv (I := fun S : Nat × (Nat → Int) => p ≤ S.1) (show p ≤ p + 1 by omega) (fun S _ h => show p ≤ S.1 + 1 by omega) m
    exact ⟨h2 60, (nuI_bd hl h 60).1⟩
  · rw [if_neg h]
    omega
theorem pDp_bd {U : Nat → Int} {n p : Nat} {l : Int} (hp : p ≤ n) : p ≤ pDp U n p l ∧ pDp U n p l ≤ n := by
  unfold pDp
  by_cases h : pSee U n p (48 + l) 57 = true
  · rw [if_pos h]
    have := pSee_lt h
    omega
  · rw [if_neg h]
    omega
theorem pRdS_bd {U : Nat → Int} {n p : Nat} {H : Nat → Int} {x : Int} (hp : p ≤ n) : p ≤ (pRdS U n x p H).2.1 ∧ (pRdS U n x p H).2.1 ≤ n := by
  unfold pRdS
  split
  · exact pNp_bd (by decide) hp
  split
  · exact pDp_bd hp
  split
  · rename_i h
    have h1 := pSee_lt h
    split
    · rename_i h2
      have h3 := pSee_lt h2
      have h4 := pNp_bd (U := U) (H := rs H 0 (U p - 48)) (k := 1) (l := 1) (by decide) (show p + 2 ≤ n by omega)
      exact ⟨show p ≤ pNp U n (p + 2) (rs H 0 (U p - 48)) 1 1 by omega, h4.2⟩
    · exact ⟨show p ≤ p + 1 by omega, show p + 1 ≤ n by omega⟩
  · exact ⟨Nat.le_refl _, hp⟩
theorem pRp_bd {U : Nat → Int} {n p : Nat} {H : Nat → Int} (hp : p ≤ n) : p ≤ pRp U n p H ∧ pRp U n p H ≤ n := by
  unfold pRp
  split
  · rename_i h
    simp only [Bool.and_eq_true, decide_eq_true_eq] at h
    have := pRdS_bd (U := U) (H := H) (x := U p) (show p + 1 ≤ n by omega)
    omega
  · omega
