def wiW (K : Nat → Int) (c : Nat) (x : Int) : Int := if x = -1 then -1 else if K x.toNat = 3 then -1 else 16 * x + ((c % 16 : Nat) : Int)
def wiN (K O Rk Z B S : Nat → Int) (f c : Nat) : Int :=
  if ((c / 16 : Nat) : Int) = Z f / 16 then (if K (B f).toNat = 3 then -1 else 16 * B f + S f + ((c % 16 : Nat) : Int))
  else wiW K c (firstN (fun b => decide (O b = (f : Int)) && decide (Rk b = ((c / 16 : Nat) : Int))) 24)
theorem gfN_m1 {rule cells : Int} {gap : Nat → Nat} (n : Nat) : (gfN rule cells gap n).1 = -1 → (gfN rule cells gap n).2 = 17 := by
  induction n with
  | zero => intro _; rfl
  | succ n ih =>
    by_cases h : cells ≤ gap n ∧ (if rule = 0 then (gfN rule cells gap n).1 = -1 else (gap n : Int) < (gfN rule cells gap n).2)
    · rw [gfN_t h]
      intro h2
      exact absurd h2 (by show ¬ ((n : Int) = -1); omega)
    · rw [gfN_f h]
      exact ih
theorem gfN_stay {cells : Int} {gap : Nat → Nat} {n : Nat} (h : (gfN 0 cells gap n).1 ≠ -1) : ∀ k, gfN 0 cells gap (n + k) = gfN 0 cells gap n := by
  intro k
  induction k with
  | zero => rfl
  | succ k ih =>
    rw [← Nat.add_assoc, gfN_f (fun q => absurd q.2 (by rw [if_pos rfl, ih]; exact h)), ih]
def ktN (K Z B S : Nat → Int) (b : Nat) : Nat := if K b = 2 then tkA Z B S b (-1) else 65535
def kpN (K Z B S : Nat → Int) (i : Nat) : Nat := if i % 16 = 0 ∨ btB ((ktN K Z B S (i / 16) : Nat) : Int) (i % 16 - 1) = true then gapL ((ktN K Z B S (i / 16) : Nat) : Int) (i % 16) else 0
theorem kpN_le (K Z B S : Nat → Int) (i : Nat) : kpN K Z B S i ≤ 16 := by
  unfold kpN
  split
  · have := gapLen_le (btB ((ktN K Z B S (i / 16) : Nat) : Int)) (16 - i % 16) (i % 16)
    unfold gapL
    omega
  · decide
def plN (K Z B S : Nat → Int) (rule x : Int) : Int := if (gfN rule x (kpN K Z B S) 384).1 ≠ -1 then (gfN rule x (kpN K Z B S) 384).1 else if lfN K = -1 then -1 else 16 * lfN K
theorem plN_bd (K Z B S : Nat → Int) (rule x : Int) : -1 ≤ plN K Z B S rule x ∧ plN K Z B S rule x < 384 := by
  have h1 := gfN_bd (rule := rule) (cells := x) (kpN_le K Z B S) 384
  have h2 := lfN_bd K
  unfold plN
  split
  · omega
  · split <;> omega
