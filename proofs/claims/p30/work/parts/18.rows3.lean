theorem frR_ro {R : Nat → Int} {b g w : Nat} (hb : b < 24) : ro (frR R b) g w = ro R g w := by
  unfold frR
  split
  · exact ro_rsb (by omega)
  · rfl
theorem frR_hi {R : Nat → Int} {b j : Nat} (hb : b < 24) (hj : 207 ≤ j) : frR R b j = R j := by
  unfold frR
  split
  · exact rs_ne (by omega) 0
  · rfl
theorem tk0_ro {R : Nat → Int} {f g w : Nat} (hw : w < 18) : ro (tk0 R f) g w = if g = f ∧ w = 4 then -1 else if g = f ∧ w = 3 then -1 else if g = f ∧ w = 1 then 16 * (ro R f 1 / 16) else ro R g w := by
  unfold tk0
  rw [ro_rs (by omega) hw, ro_rs (by omega) hw, ro_rs (by omega) hw]
theorem tk0_hi {R : Nat → Int} {f j : Nat} (hf : f < 10) (hj : 207 ≤ j) : tk0 R f j = R j := by
  unfold tk0
  rw [rs_ne (by omega), rs_ne (by omega), rs_ne (by omega)]
theorem tkR_ro {R : Nat → Int} {f g w : Nat} (hI : RI R) (hf : f < 10) (hw : w < 18) : ro (tkR R f) g w = ro (tk0 R f) g w := by
  have h := hI f hf
  unfold tkR
  split
  · exact frR_ro (by omega)
  · rfl
theorem tkR_hi {R : Nat → Int} {f j : Nat} (hI : RI R) (hf : f < 10) (hj : 207 ≤ j) : tkR R f j = R j := by
  have h := hI f hf
  unfold tkR
  split
  · exact (frR_hi (by omega) hj).trans (tk0_hi hf hj)
  · exact tk0_hi hf hj
theorem RI_tkR {R : Nat → Int} {f : Nat} (hI : RI R) (hf : f < 10) : RI (tkR R f) := by
  have h := hI f hf
  unfold tkR
  split
  · exact RI_frR (RI_tk0 hI hf) (by omega)
  · exact RI_tk0 hI hf
theorem tkR_1 {R : Nat → Int} {f : Nat} (hI : RI R) (hf : f < 10) : ro (tkR R f) f 1 = 16 * (ro R f 1 / 16) := by
  rw [tkR_ro hI hf (by omega), tk0_ro (by omega), if_neg (by omega), if_neg (by omega), if_pos ⟨rfl, rfl⟩]
def gwO (R : Nat → Int) (f n : Nat) : Option (Int × (Nat → Int)) :=
  if ro R f 2 = 1 ∨ 200 < ro R f 1 + n then none
  else if gip R f n = true then some (0, rs R (27 + 18 * f + 1) (ro R f 1 + n))
  else ((twO (tkR R f) f ((ro R f 1 + n).toNat / 16 - (ro R f 1 / 16).toNat)).bind (fun R2 => ptO R2 f (((ro R f 1 + n).toNat % 16 : Nat) : Int))).map (fun R2 => (1, R2))
def opV (o : Option (Int × (Nat → Int))) : Int := match o with
  | some p => p.1
  | none => -1
def opR (R : Nat → Int) (o : Option (Int × (Nat → Int))) : Nat → Int := match o with
  | some p => p.2
  | none => rfR R
/-- the last whole block given up -/
def dwS (R : Nat → Int) (f : Nat) : Nat → Int := rs (rs R (3 + (ro R f (6 + (ro R f 1 / 16).toNat - 1)).toNat) 0) (27 + 18 * f + 1) (ro R f 1 - 16)
def dwN (R : Nat → Int) (f : Nat) : Nat → (Nat → Int)
  | 0 => R
  | n + 1 => dwN (dwS R f) f n
theorem dwS_ro {R : Nat → Int} {f g w : Nat} (hI : RI R) (hf : f < 10) (h1 : 16 ≤ ro R f 1) (hw : w < 18) : ro (dwS R f) g w = if g = f ∧ w = 1 then ro R f 1 - 16 else ro R g w := by
  have h := hI f hf
  have h2 := h.2.2.2.2.1 ((ro R f 1 / 16).toNat - 1) (by omega)
  rw [show 6 + ((ro R f 1 / 16).toNat - 1) = 6 + (ro R f 1 / 16).toNat - 1 by omega] at h2
  unfold dwS
  rw [ro_rs (by omega) hw, ro_rsb (by omega)]
theorem dwS_hi {R : Nat → Int} {f j : Nat} (hI : RI R) (hf : f < 10) (h1 : 16 ≤ ro R f 1) (hj : 207 ≤ j) : dwS R f j = R j := by
  have h := hI f hf
  have h2 := h.2.2.2.2.1 ((ro R f 1 / 16).toNat - 1) (by omega)
  rw [show 6 + ((ro R f 1 / 16).toNat - 1) = 6 + (ro R f 1 / 16).toNat - 1 by omega] at h2
  unfold dwS
  rw [rs_ne (by omega), rs_ne (by omega)]
theorem RI_dwS {R : Nat → Int} {f : Nat} (hI : RI R) (hf : f < 10) (h1 : 16 ≤ ro R f 1) (h0 : ro R f 1 % 16 = 0) : RI (dwS R f) := by
  intro g hg
  have h := hI g hg
  have e : ∀ w, w < 18 → w ≠ 1 → ro (dwS R f) g w = ro R g w := fun w hw n1 => by rw [dwS_ro hI hf h1 hw, if_neg (by omega)]
  rw [e 0 (by omega) (by omega), e 2 (by omega) (by omega), e 3 (by omega) (by omega), e 4 (by omega) (by omega)]
  by_cases hgf : g = f
  · subst hgf
    rw [show ro (dwS R g) g 1 = ro R g 1 - 16 by rw [dwS_ro hI hf h1 (by omega), if_pos ⟨rfl, rfl⟩]]
    refine ⟨h.1, by omega, fun q => absurd q (by omega), h.2.2.2.1, fun k hk => ?_, h.2.2.2.2.2⟩
    rw [e (6 + k) (by omega) (by omega)]
    exact h.2.2.2.2.1 k (by omega)
  · rw [show ro (dwS R f) g 1 = ro R g 1 by rw [dwS_ro hI hf h1 (by omega), if_neg (by omega)]]
    refine ⟨h.1, h.2.1, h.2.2.1, h.2.2.2.1, fun k hk => ?_, h.2.2.2.2.2⟩
    rw [e (6 + k) (by omega) (by omega)]
    exact h.2.2.2.2.1 k hk
/-- a file cut to s cells, its whole blocks as they were -/
def ct0 (R : Nat → Int) (f : Nat) (s : Nat) : Nat → Int := rs (rs (rs R (27 + 18 * f + 1) (s : Int)) (27 + 18 * f + 3) (-1)) (27 + 18 * f + 4) (-1)
def ctR1 (R : Nat → Int) (f s : Nat) : Nat → Int := if s % 16 = 0 then frR (ct0 R f s) (ro R f 3).toNat else rs R (27 + 18 * f + 1) (s : Int)
theorem RI_ct0 {R : Nat → Int} {f s : Nat} (hI : RI R) (hf : f < 10) (hs : (s : Int) ≤ ro R f 1) (h0 : s % 16 = 0) : RI (ct0 R f s) := by
  intro g hg
  have h := hI g hg
  have e : ∀ w, w < 18 → ro (ct0 R f s) g w = if g = f ∧ w = 4 then -1 else if g = f ∧ w = 3 then -1 else if g = f ∧ w = 1 then (s : Int) else ro R g w := by
    intro w hw
    unfold ct0
    rw [ro_rs (by omega) hw, ro_rs (by omega) hw, ro_rs (by omega) hw]
  have e9 : ∀ w, w < 18 → w ≠ 1 → w ≠ 3 → w ≠ 4 → ro (ct0 R f s) g w = ro R g w := fun w hw n1 n2 n3 => by rw [e w hw, if_neg (by omega), if_neg (by omega), if_neg (by omega)]
  rw [e9 0 (by omega) (by omega) (by omega) (by omega), e9 2 (by omega) (by omega) (by omega) (by omega)]
  by_cases hgf : g = f
  · subst hgf
    rw [show ro (ct0 R g s) g 1 = (s : Int) by rw [e 1 (by omega), if_neg (by omega), if_neg (by omega), if_pos ⟨rfl, rfl⟩], show ro (ct0 R g s) g 4 = -1 by rw [e 4 (by omega), if_pos ⟨rfl, rfl⟩]]
    refine ⟨h.1, by omega, fun q => absurd q (by omega), by omega, fun k hk => ?_, h.2.2.2.2.2⟩
    rw [e9 (6 + k) (by omega) (by omega) (by omega) (by omega)]
    exact h.2.2.2.2.1 k (by omega)
  · have e8 : ∀ w, w < 18 → ro (ct0 R f s) g w = ro R g w := fun w hw => by rw [e w hw, if_neg (by omega), if_neg (by omega), if_neg (by omega)]
    rw [e8 1 (by omega), e8 3 (by omega), e8 4 (by omega)]
    refine ⟨h.1, h.2.1, h.2.2.1, h.2.2.2.1, fun k hk => ?_, h.2.2.2.2.2⟩
    rw [e8 (6 + k) (by omega)]
    exact h.2.2.2.2.1 k hk
def cuO (R : Nat → Int) (f n : Nat) : Option (Int × (Nat → Int)) :=
  if ro R f 2 = 1 ∨ ro R f 1 - n < 0 then none
  else if ((ro R f 1 - n).toNat / 16 : Nat) = ro R f 1 / 16 then some (ro R f 1 - n, ctR1 R f (ro R f 1 - n).toNat)
  else (ptO (dwN (tkR R f) f ((ro R f 1 / 16).toNat - (ro R f 1 - n).toNat / 16)) f (((ro R f 1 - n).toNat % 16 : Nat) : Int)).map (fun R2 => (ro R f 1 - n, R2))
/-- a file's whole blocks given up one after the other, but the bad ones -/
def dlS (R : Nat → Int) (b : Nat) : Nat → Int := rs R (3 + b) (if R (3 + b) = 1 then 0 else R (3 + b))
def dlN (R : Nat → Int) (f : Nat) : Nat → (Nat → Int)
  | 0 => R
  | k + 1 => dlS (dlN R f k) (ro R f (6 + k)).toNat
def dcN (R : Nat → Int) (f k : Nat) : Int := sumN (fun k => Bi (decide (dlN R f k (3 + (ro R f (6 + k)).toNat) = 1))) k
theorem dlN_ro {R : Nat → Int} {f : Nat} (hI : RI R) (hf : f < 10) {g w : Nat} : ∀ {k : Nat}, (k : Int) ≤ ro R f 1 / 16 → ro (dlN R f k) g w = ro R g w := by
  have h := hI f hf
  intro k
  induction k with
  | zero => intro _; rfl
  | succ k ih =>
    intro hk
    have h2 := h.2.2.2.2.1 k (by omega)
    show ro (dlS (dlN R f k) _) g w = _
    unfold dlS
    rw [ro_rsb (by omega)]
    exact ih (by omega)
theorem RI_dlN {R : Nat → Int} {f : Nat} (hI : RI R) (hf : f < 10) {k : Nat} (hk : (k : Int) ≤ ro R f 1 / 16) : RI (dlN R f k) := by
  intro g hg
  simp only [dlN_ro hI hf hk]
  exact hI g hg
theorem RI_zr {R : Nat → Int} {f : Nat} (h : RI R) : RI (zrR R f 18) := by
  intro g hg
  have h1 := h g hg
  rw [zrR_ro (by omega), zrR_ro (by omega), zrR_ro (by omega), zrR_ro (by omega), zrR_ro (by omega)]
  by_cases e : g = f
  · simp only [e, if_true]
    refine ⟨by simp, by simp, fun q => absurd q (by simp), by simp, fun k hk => absurd hk (by simp), by simp⟩
  · simp only [e, if_false]
    refine ⟨h1.1, h1.2.1, h1.2.2.1, h1.2.2.2.1, fun k hk => ?_, h1.2.2.2.2.2⟩
    rw [zrR_ro (by omega), if_neg e]
    exact h1.2.2.2.2.1 k hk
def dl1 (R : Nat → Int) (f : Nat) : Nat → Int := zrR (dlN R f (ro R f 1 / 16).toNat) f 18
def dlR (R : Nat → Int) (f : Nat) : Nat → Int := if 0 < ro R f 1 % 16 then frR (dl1 R f) (ro R f 3).toNat else dl1 R f
def dlV (R : Nat → Int) (f : Nat) : Int := dcN R f (ro R f 1 / 16).toNat + (if 0 < ro R f 1 % 16 then Bi (frC (dl1 R f) (ro R f 3).toNat) else 0)
