theorem ptO_0 {R : Nat → Int} {f : Nat} {c : Int} (h : c = 0) : ptO R f c = some R := if_pos h
theorem ptO_n {R : Nat → Int} {f : Nat} {c : Int} (h : c ≠ 0) (h2 : plcF R c = -1) : ptO R f c = none := by
  unfold ptO
  rw [if_neg h, if_pos h2]
theorem ptO_s {R : Nat → Int} {f : Nat} {c : Int} (h : c ≠ 0) (h2 : plcF R c ≠ -1) : ptO R f c = some (ptR R f c) := by
  unfold ptO
  rw [if_neg h, if_neg h2]
theorem ptR_hi {R : Nat → Int} {f : Nat} {c : Int} (hf : f < 10) {j : Nat} (hj : 207 ≤ j) : ptR R f c j = R j := by
  have h := plcF_bd R c
  show rs (rs (rs (rs (rs R (3 + (plcF R c).toNat / 16) 2) (27 + 18 * f + 3) (plcF R c / 16)) (27 + 18 * f + 4) (plcF R c % 16)) (27 + 18 * f + 1) _) (27 + 18 * f + 5) _ j = R j
  rw [rs_ne (by omega), rs_ne (by omega), rs_ne (by omega), rs_ne (by omega), rs_ne (by omega)]
theorem twO_s {R : Nat → Int} {f n : Nat} (h : lowF R ≠ -1) : twO R f (n + 1) = twO (twS R f) f n := if_neg h
theorem twO_n {R : Nat → Int} {f n : Nat} (h : lowF R = -1) : twO R f (n + 1) = none := if_pos h
theorem twO_out {f : Nat} (hf : f < 10) : ∀ (n : Nat) (R R2 : Nat → Int), RI R → ro R f 1 % 16 = 0 → ro R f 1 + 16 * n ≤ 200 → twO R f n = some R2 → RI R2 ∧ ro R2 f 1 = ro R f 1 + 16 * n ∧ ∀ j, 207 ≤ j → R2 j = R j := by
  intro n
  induction n with
  | zero =>
    intro R R2 h1 h2 h3 h4
    cases h4
    exact ⟨h1, by omega, fun _ _ => rfl⟩
  | succ n ih =>
    intro R R2 h1 h2 h3 h4
    have h5 := (h1 f hf).2.1
    by_cases hl : lowF R = -1
    · rw [twO_n hl] at h4; cases h4
    · rw [twO_s hl] at h4
      have e : ro (twS R f) f 1 = ro R f 1 + 16 := by rw [twS_ro ⟨h5.1, by omega⟩ (by omega), if_pos ⟨rfl, rfl⟩]
      obtain ⟨a, b, c⟩ := ih (twS R f) R2 (RI_twS hf h1 (by omega) h2 hl) (by omega) (by omega) h4
      exact ⟨a, by omega, fun j hj => (c j hj).trans (twS_hi hf ⟨h5.1, by omega⟩ hj)⟩
theorem cp_back {R R0 A : Nat → Int} (h : ∀ j, 207 ≤ j → R j = R0 j) : cpA R (cpA A R0 0 0 207) 0 0 207 = R0 := by
  funext q
  unfold cpA
  by_cases hq : q < 207
  · rw [if_pos ⟨Nat.zero_le q, by omega⟩, if_pos ⟨Nat.zero_le _, by omega⟩]
    congr 1
    omega
  · rw [if_neg (by omega)]
    exact h q (by omega)
theorem frnF_bd (r : Nat → Int) : -1 ≤ frnF r ∧ frnF r < 10 := firstN_bd _ 10
/-- a file's entries, the first k of them, nought -/
def zrR (R : Nat → Int) (f k : Nat) : Nat → Int := fun q => if 27 + 18 * f ≤ q ∧ q < 27 + 18 * f + k then 0 else R q
theorem zrR_0 (R : Nat → Int) (f : Nat) : zrR R f 0 = R := by
  funext q
  unfold zrR
  rw [if_neg (by omega)]
theorem zrR_s (R : Nat → Int) (f k : Nat) : rs (zrR R f k) (27 + 18 * f + k) 0 = zrR R f (k + 1) := by
  funext q
  unfold rs zrR
  by_cases h : q = 27 + 18 * f + k
  · subst h
    rw [if_pos rfl, if_pos (by omega)]
  · rw [if_neg h]
    by_cases h2 : 27 + 18 * f ≤ q ∧ q < 27 + 18 * f + k
    · rw [if_pos h2, if_pos (by omega)]
    · rw [if_neg h2, if_neg (by omega)]
theorem zrR_ro {R : Nat → Int} {f g w : Nat} (hw : w < 18) : ro (zrR R f 18) g w = if g = f then 0 else ro R g w := by
  show zrR R f 18 (27 + 18 * g + w) = _
  unfold zrR
  by_cases h : g = f
  · rw [if_pos h, if_pos (by omega)]
  · rw [if_neg h, if_neg (by omega)]
theorem zrR_b {R : Nat → Int} {f k b : Nat} (hb : b < 27) : zrR R f k b = R b := if_neg (by omega)
theorem zrR_hi {R : Nat → Int} {f : Nat} (hf : f < 10) {j : Nat} (hj : 207 ≤ j) : zrR R f 18 j = R j := if_neg (by omega)
/-- a new file without cells -/
def cr1 (R : Nat → Int) (f : Nat) : Nat → Int := rs (rs (rs (zrR R f 18) (27 + 18 * f + 0) 1) (27 + 18 * f + 3) (-1)) (27 + 18 * f + 4) (-1)
theorem cr1_ro {R : Nat → Int} {f g w : Nat} (hw : w < 18) : ro (cr1 R f) g w = if g = f then (if w = 0 then 1 else if w = 3 then -1 else if w = 4 then -1 else 0) else ro R g w := by
  unfold cr1
  rw [ro_rs (by omega) hw, ro_rs (by omega) hw, ro_rs (by omega) hw, zrR_ro hw]
  by_cases h : g = f
  · simp only [h, true_and, if_true]
    by_cases h0 : w = 0
    · simp [h0]
    · by_cases h3 : w = 3
      · simp [h3]
      · by_cases h4 : w = 4
        · simp [h4]
        · simp [h0, h3, h4]
  · simp [h]
theorem cr1_b {R : Nat → Int} {f b : Nat} (hb : b < 27) : cr1 R f b = R b := by
  unfold cr1
  rw [rk_rs hb, rk_rs hb, rk_rs hb, zrR_b hb]
theorem cr1_hi {R : Nat → Int} {f : Nat} (hf : f < 10) {j : Nat} (hj : 207 ≤ j) : cr1 R f j = R j := by
  unfold cr1
  rw [rs_ne (by omega), rs_ne (by omega), rs_ne (by omega), zrR_hi hf hj]
theorem RI_cr1 {R : Nat → Int} {f : Nat} (h : RI R) : RI (cr1 R f) := by
  intro g hg
  have h1 := h g hg
  rw [cr1_ro (by omega), cr1_ro (by omega), cr1_ro (by omega), cr1_ro (by omega), cr1_ro (by omega)]
  by_cases e : g = f
  · simp only [e, if_true]
    refine ⟨by simp, by simp, fun q => absurd q (by simp), by simp, fun k hk => absurd hk (by simp), by simp⟩
  · simp only [e, if_false]
    refine ⟨h1.1, h1.2.1, h1.2.2.1, h1.2.2.2.1, fun k hk => ?_, h1.2.2.2.2.2⟩
    rw [cr1_ro (by omega), if_neg e]
    exact h1.2.2.2.2.1 k hk
def crO (R : Nat → Int) (s : Nat) : Option (Nat → Int) := if frnF R = -1 then none else (twO (cr1 R (frnF R).toNat) (frnF R).toNat (s / 16)).bind (fun R2 => ptO R2 (frnF R).toNat ((s % 16 : Nat) : Int))
def rfR (R : Nat → Int) : Nat → Int := rs R 0 (wr (R 0 + 1))
def crV (R : Nat → Int) (s : Nat) : Int := match crO R s with
  | some _ => frnF R
  | none => -1
def crR (R : Nat → Int) (s : Nat) : Nat → Int := match crO R s with
  | some R2 => R2
  | none => rfR R
theorem crV_n {R : Nat → Int} {s : Nat} (h : crO R s = none) : crV R s = -1 := by unfold crV; rw [h]
theorem crR_n {R : Nat → Int} {s : Nat} (h : crO R s = none) : crR R s = rfR R := by unfold crR; rw [h]
theorem crV_s {R R2 : Nat → Int} {s : Nat} (h : crO R s = some R2) : crV R s = frnF R := by unfold crV; rw [h]
theorem crR_s {R R2 : Nat → Int} {s : Nat} (h : crO R s = some R2) : crR R s = R2 := by unfold crR; rw [h]
def gipT (R : Nat → Int) (f : Nat) (k : Nat) : Bool := isTk R (ro R f 3) (ro R f 4 + ro R f 1 % 16 + (k : Int))
def gip0 (R : Nat → Int) (f n : Nat) : Bool := decide (0 < ro R f 1 % 16 ∧ ro R f 1 % 16 + n < 16 ∧ ro R f 4 + ro R f 1 % 16 + n ≤ 16)
def gip (R : Nat → Int) (f n : Nat) : Bool := gip0 R f n && !(orN (gipT R f) n)
theorem orN_mono {p : Nat → Bool} {i n : Nat} (h : i ≤ n) (hp : orN p i = true) : orN p n = true := by
  obtain ⟨j, h1, h2⟩ := orN_iff.mp hp
  exact orN_iff.mpr ⟨j, by omega, h2⟩
theorem gip_exit {R : Nat → Int} {f n i : Nat} (hi : i ≤ n) (h : (gip0 R f n && !(orN (gipT R f) i)) = false) : gip R f n = false := by
  unfold gip
  cases h0 : gip0 R f n with
  | false => rfl
  | true =>
    rw [h0, Bool.true_and] at h
    have h2 : orN (gipT R f) i = true := by cases hq : orN (gipT R f) i <;> simp_all
    rw [orN_mono hi h2]
    rfl
theorem gip_step {R : Nat → Int} {f n i : Nat} (h : (gip0 R f n && !(orN (gipT R f) i)) = true) : (gip0 R f n && !(orN (gipT R f) (i + 1))) = !(gipT R f i) := by
  rw [Bool.and_eq_true] at h
  have h2 : orN (gipT R f) i = false := by cases hq : orN (gipT R f) i <;> simp_all
  rw [h.1, Bool.true_and]
  show (!(orN (gipT R f) i || gipT R f i)) = _
  rw [h2, Bool.false_or]
theorem isSome_f {α : Type} {o : Option α} (h : o.isSome = false) : o = none := by
  cases o with
  | none => rfl
  | some a => cases h
theorem isSome_t {α : Type} {o : Option α} (h : o.isSome = true) : ∃ a, o = some a := by
  cases o with
  | none => cases h
  | some a => exact ⟨a, rfl⟩
