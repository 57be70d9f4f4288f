theorem rs_rs (R : Nat → Int) (i : Nat) (x y : Int) : rs (rs R i x) i y = rs R i y := by
  funext j
  unfold rs
  split <;> rfl
def svP (P R : Nat → Int) (s : Nat) : Nat → Int := if s = 6 then cpA (cpA P P 0 207 1035) R 1035 0 207 else cpA P R (207 * s) 0 207
def svN (s : Nat) : Nat := if s = 6 then 6 else s + 1
-- files that a bad block breaks
def spC (R : Nat → Int) (b : Int) (f : Nat) : Bool := hasIn R f b && decide (ro R f 2 = 0)
def spN (R : Nat → Int) (b : Int) : Nat → (Nat → Int)
  | 0 => R
  | f + 1 => if spC (spN R b f) b f = true then rs (spN R b f) (27 + 18 * f + 2) 1 else spN R b f
def spV (R : Nat → Int) (b : Int) (n : Nat) : Int := sumN (fun f => Bi (spC (spN R b f) b f)) n
theorem spN_t {R : Nat → Int} {b : Int} {f : Nat} (h : spC (spN R b f) b f = true) : spN R b (f + 1) = rs (spN R b f) (27 + 18 * f + 2) 1 := if_pos h
theorem spN_f {R : Nat → Int} {b : Int} {f : Nat} (h : spC (spN R b f) b f = false) : spN R b (f + 1) = spN R b f := if_neg (by rw [h]; decide)
