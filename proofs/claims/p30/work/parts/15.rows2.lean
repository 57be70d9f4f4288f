theorem ptO_0 {R : Nat → Int} {f : Nat} {c : Int} (h : c = 0) : ptO R f c = some R := if_pos h
theorem ptO_n {R : Nat → Int} {f : Nat} {c : Int} (h : c ≠ 0) (h2 : plcF R c = -1) : ptO R f c = none := by
  unfold ptO
  rw [if_neg h, if_pos h2]
theorem ptO_s {R : Nat → Int} {f : Nat} {c : Int} (h : c ≠ 0) (h2 : plcF R c ≠ -1) : ptO R f c = some (ptR R f c) := by
  unfold ptO
  rw [if_neg h, if_neg h2]
theorem twO_s {R : Nat → Int} {f n : Nat} (h : lowF R ≠ -1) : twO R f (n + 1) = twO (twS R f) f n := if_neg h
theorem twO_n {R : Nat → Int} {f n : Nat} (h : lowF R = -1) : twO R f (n + 1) = none := if_pos h
/-- a file's entries, the first k of them, nought -/
def zrR (R : Nat → Int) (f k : Nat) : Nat → Int := fun q => if 27 + 18 * f ≤ q ∧ q < 27 + 18 * f + k then 0 else R q
theorem zrR_ro {R : Nat → Int} {f g w : Nat} (hw : w < 18) : ro (zrR R f 18) g w = if g = f then 0 else ro R g w := by
  show zrR R f 18 (27 + 18 * g + w) = _
  unfold zrR
  by_cases h : g = f
  · rw [if_pos h, if_pos (by omega)]
  · rw [if_neg h, if_neg (by omega)]
theorem zrR_b {R : Nat → Int} {f k b : Nat} (hb : b < 27) : zrR R f k b = R b := if_neg (by omega)
/-- a new file without cells -/
def cr1 (R : Nat → Int) (f : Nat) : Nat → Int := rs (rs (rs (zrR R f 18) (27 + 18 * f + 0) 1) (27 + 18 * f + 3) (-1)) (27 + 18 * f + 4) (-1)
theorem cr1_ro {R : Nat → Int} {f g w : Nat} (hw : w < 18) : ro (cr1 R f) g w = if g = f then (if w = 0 then 1 else if w = 3 then -1 else if w = 4 then -1 else 0) else ro R g w := by
  unfold cr1
  rw [ro_rs (by omega) hw, ro_rs (by omega) hw, ro_rs (by omega) hw, zrR_ro hw]
  by_cases h : g = f
  · simp only [h, true_and, if_true]
    by_cases h0 : w = 0
    · simp [h0]
    · by_cases h3 : w = 3
      · simp [h3]
      · by_cases h4 : w = 4
        · simp [h4]
        · simp [h0, h3, h4]
  · simp [h]
theorem cr1_b {R : Nat → Int} {f b : Nat} (hb : b < 27) : cr1 R f b = R b := by
  unfold cr1
  rw [rk_rs hb, rk_rs hb, rk_rs hb, zrR_b hb]
def crO (R : Nat → Int) (s : Nat) : Option (Nat → Int) := if frnF R = -1 then none else (twO (cr1 R (frnF R).toNat) (frnF R).toNat (s / 16)).bind (fun R2 => ptO R2 (frnF R).toNat ((s % 16 : Nat) : Int))
def rfR (R : Nat → Int) : Nat → Int := rs R 0 (wr (R 0 + 1))
def crV (R : Nat → Int) (s : Nat) : Int := match crO R s with
  | some _ => frnF R
  | none => -1
def crR (R : Nat → Int) (s : Nat) : Nat → Int := match crO R s with
  | some R2 => R2
  | none => rfR R
theorem crV_n {R : Nat → Int} {s : Nat} (h : crO R s = none) : crV R s = -1 := by unfold crV; rw [h]
theorem crR_n {R : Nat → Int} {s : Nat} (h : crO R s = none) : crR R s = rfR R := by unfold crR; rw [h]
theorem crV_s {R R2 : Nat → Int} {s : Nat} (h : crO R s = some R2) : crV R s = frnF R := by unfold crV; rw [h]
theorem crR_s {R R2 : Nat → Int} {s : Nat} (h : crO R s = some R2) : crR R s = R2 := by unfold crR; rw [h]
def gipT (R : Nat → Int) (f : Nat) (k : Nat) : Bool := isTk R (ro R f 3) (ro R f 4 + ro R f 1 % 16 + (k : Int))
def gip0 (R : Nat → Int) (f n : Nat) : Bool := decide (0 < ro R f 1 % 16 ∧ ro R f 1 % 16 + n < 16 ∧ ro R f 4 + ro R f 1 % 16 + n ≤ 16)
def gip (R : Nat → Int) (f n : Nat) : Bool := gip0 R f n && !(orN (gipT R f) n)
