theorem lfN_bd (K : Nat → Int) : -1 ≤ lfN K ∧ lfN K < 24 := by
  have := firstN_bd (fun b => decide (K b = 0)) 24
  unfold lfN
  omega
theorem lnN_bd (Z : Nat → Int) : -1 ≤ lnN Z ∧ lnN Z < 10 := by
  have := firstN_bd (fun f => decide (Z f = -1)) 10
  unfold lnN
  omega
def cbN (Z B S : Nat → Int) (f : Nat) : Nat := if Z f = -1 ∨ B f = -1 then 0 else gapL ((tkA Z B S (B f) (-1) : Nat) : Int) (S f + Z f % 16).toNat
theorem cbN_le (Z B S : Nat → Int) (f : Nat) : cbN Z B S f ≤ 16 := by
  unfold cbN
  split
  · decide
  · have := gapLen_le (btB ((tkA Z B S (B f) (-1) : Nat) : Int)) (16 - (S f + Z f % 16).toNat) (S f + Z f % 16).toNat
    unfold gapL
    omega
def hrB (K Z B S : Nat → Int) (s : Int) : Bool := decide (lnN Z ≠ -1) && ieB K Z B S (s / 16) (s % 16) (-1)
def goN (K Z B S W : Nat → Int) (f : Nat) (n : Int) : Int :=
  if W f = 1 ∨ 200 < Z f + n then -1
  else if (Z f + n) / 16 - Z f / 16 = 0 ∧ n ≤ ((cbN Z B S f : Nat) : Int) then 0
  else if ieB K Z B S ((Z f + n) / 16 - Z f / 16) ((Z f + n) % 16) f = true then 1 else -1
theorem goN_bd (K Z B S W : Nat → Int) (f : Nat) (n : Int) : -1 ≤ goN K Z B S W f n ∧ goN K Z B S W f n ≤ 1 := by
  unfold goN
  split
  · decide
  · split
    · decide
    · split <;> decide
