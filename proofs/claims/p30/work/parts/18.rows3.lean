theorem frR_ro {R : Nat → Int} {b g w : Nat} (hb : b < 24) : ro (frR R b) g w = ro R g w := by
  unfold frR
  split
  · exact ro_rsb (by omega)
  · rfl
theorem tk0_ro {R : Nat → Int} {f g w : Nat} (hw : w < 18) : ro (tk0 R f) g w = if g = f ∧ w = 4 then -1 else if g = f ∧ w = 3 then -1 else if g = f ∧ w = 1 then 16 * (ro R f 1 / 16) else ro R g w := by
  unfold tk0
  rw [ro_rs (by omega) hw, ro_rs (by omega) hw, ro_rs (by omega) hw]
theorem tkR_ro {R : Nat → Int} {f g w : Nat} (hI : RI R) (hf : f < 10) (hw : w < 18) : ro (tkR R f) g w = ro (tk0 R f) g w := by
  have h := hI f hf
  unfold tkR
  split
  · exact frR_ro (by omega)
  · rfl
def gwO (R : Nat → Int) (f n : Nat) : Option (Int × (Nat → Int)) :=
  if ro R f 2 = 1 ∨ 200 < ro R f 1 + n then none
  else if gip R f n = true then some (0, rs R (27 + 18 * f + 1) (ro R f 1 + n))
  else ((twO (tkR R f) f ((ro R f 1 + n).toNat / 16 - (ro R f 1 / 16).toNat)).bind (fun R2 => ptO R2 f (((ro R f 1 + n).toNat % 16 : Nat) : Int))).map (fun R2 => (1, R2))
def opV (o : Option (Int × (Nat → Int))) : Int := match o with
  | some p => p.1
  | none => -1
def opR (R : Nat → Int) (o : Option (Int × (Nat → Int))) : Nat → Int := match o with
  | some p => p.2
  | none => rfR R
/-- the last whole block given up -/
def dwS (R : Nat → Int) (f : Nat) : Nat → Int := rs (rs R (3 + (ro R f (6 + (ro R f 1 / 16).toNat - 1)).toNat) 0) (27 + 18 * f + 1) (ro R f 1 - 16)
def dwN (R : Nat → Int) (f : Nat) : Nat → (Nat → Int)
  | 0 => R
  | n + 1 => dwN (dwS R f) f n
theorem dwS_ro {R : Nat → Int} {f g w : Nat} (hI : RI R) (hf : f < 10) (h1 : 16 ≤ ro R f 1) (hw : w < 18) : ro (dwS R f) g w = if g = f ∧ w = 1 then ro R f 1 - 16 else ro R g w := by
  have h := hI f hf
  have h2 := h.2.2.2.2.1 ((ro R f 1 / 16).toNat - 1) (by omega)
  rw [show 6 + ((ro R f 1 / 16).toNat - 1) = 6 + (ro R f 1 / 16).toNat - 1 by omega] at h2
  unfold dwS
  rw [ro_rs (by omega) hw, ro_rsb (by omega)]
/-- a file cut to s cells, its whole blocks as they were -/
def ct0 (R : Nat → Int) (f : Nat) (s : Nat) : Nat → Int := rs (rs (rs R (27 + 18 * f + 1) (s : Int)) (27 + 18 * f + 3) (-1)) (27 + 18 * f + 4) (-1)
def ctR1 (R : Nat → Int) (f s : Nat) : Nat → Int := if s % 16 = 0 then frR (ct0 R f s) (ro R f 3).toNat else rs R (27 + 18 * f + 1) (s : Int)
def cuO (R : Nat → Int) (f n : Nat) : Option (Int × (Nat → Int)) :=
  if ro R f 2 = 1 ∨ ro R f 1 - n < 0 then none
  else if ((ro R f 1 - n).toNat / 16 : Nat) = ro R f 1 / 16 then some (ro R f 1 - n, ctR1 R f (ro R f 1 - n).toNat)
  else (ptO (dwN (tkR R f) f ((ro R f 1 / 16).toNat - (ro R f 1 - n).toNat / 16)) f (((ro R f 1 - n).toNat % 16 : Nat) : Int)).map (fun R2 => (ro R f 1 - n, R2))
/-- a file's whole blocks given up one after the other, but the bad ones -/
def dlS (R : Nat → Int) (b : Nat) : Nat → Int := rs R (3 + b) (if R (3 + b) = 1 then 0 else R (3 + b))
def dlN (R : Nat → Int) (f : Nat) : Nat → (Nat → Int)
  | 0 => R
  | k + 1 => dlS (dlN R f k) (ro R f (6 + k)).toNat
def dcN (R : Nat → Int) (f k : Nat) : Int := sumN (fun k => Bi (decide (dlN R f k (3 + (ro R f (6 + k)).toNat) = 1))) k
theorem dlN_ro {R : Nat → Int} {f : Nat} (hI : RI R) (hf : f < 10) {g w : Nat} : ∀ {k : Nat}, (k : Int) ≤ ro R f 1 / 16 → ro (dlN R f k) g w = ro R g w := by
  have h := hI f hf
  intro k
  induction k with
  | zero => intro _; rfl
  | succ k ih =>
    intro hk
    have h2 := h.2.2.2.2.1 k (by omega)
    show ro (dlS (dlN R f k) _) g w = _
    unfold dlS
    rw [ro_rsb (by omega)]
    exact ih (by omega)
def dl1 (R : Nat → Int) (f : Nat) : Nat → Int := zrR (dlN R f (ro R f 1 / 16).toNat) f 18
def dlR (R : Nat → Int) (f : Nat) : Nat → Int := if 0 < ro R f 1 % 16 then frR (dl1 R f) (ro R f 3).toNat else dl1 R f
def dlV (R : Nat → Int) (f : Nat) : Int := dcN R f (ro R f 1 / 16).toNat + (if 0 < ro R f 1 % 16 then Bi (frC (dl1 R f) (ro R f 3).toNat) else 0)
