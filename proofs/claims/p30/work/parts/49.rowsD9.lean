def oSg (D : Nat → Int) (c : Int) : Nat → Int := if c = 43 ∨ c = 45 ∨ c = 60 ∨ c = 62 then rs (rs D 1 c) 0 (if c = 43 then 3 else 1) else D
def oFl (D : Nat → Int) (c : Int) : Nat → Int := if 48 ≤ c ∧ c ≤ 57 then rs (rs D 2 (c - 48)) 0 (if D 1 = 45 then 5 else 2) else D
def oCl (D : Nat → Int) (c : Int) : Nat → Int := if c = 58 then rs D 0 3 else D
def oFd (D : Nat → Int) (c : Int) : Nat → Int := if (48 ≤ c ∧ c ≤ 57) ∧ ¬ (c = 48 ∧ D 1 ≠ 43) then rs (rs D 3 (c - 48)) 0 4 else D
def oDg (D : Nat → Int) (c : Int) : Nat → Int := if (48 ≤ c ∧ c ≤ 57) ∧ D 3 ≠ 0 ∧ 10 * D 3 + c - 48 ≤ 200 then rs D 3 (10 * D 3 + c - 48) else D
def oSc (D : Nat → Int) (c : Int) : Nat → Int := if c = 59 then rs D 0 0 else D
/-- what an order's reader takes: does it, and what it knows then -/
def oTb (D : Nat → Int) (d : Nat) (c : Int) : Bool := match d with
  | 0 => decide (c = 43 ∨ c = 45 ∨ c = 60 ∨ c = 62)
  | 1 => decide (48 ≤ c ∧ c ≤ 57)
  | 2 => decide (c = 58)
  | 3 => decide ((48 ≤ c ∧ c ≤ 57) ∧ ¬ (c = 48 ∧ D 1 ≠ 43))
  | 4 => if c = 59 then true else decide ((48 ≤ c ∧ c ≤ 57) ∧ D 3 ≠ 0 ∧ 10 * D 3 + c - 48 ≤ 200)
  | _ => decide (c = 59)
def oTd (D : Nat → Int) (d : Nat) (c : Int) : Nat → Int := match d with
  | 0 => oSg D c
  | 1 => oFl D c
  | 2 => oCl D c
  | 3 => oFd D c
  | 4 => if c = 59 then rs D 0 0 else oDg D c
  | _ => oSc D c
