theorem up_up (v : Ct) (a q : Nat) (x y : Int) : up (up v a q x) a q y = up v a q y := by
  funext b j
  unfold up
  split <;> rfl
theorem rs_rs (R : Nat → Int) (i : Nat) (x y : Int) : rs (rs R i x) i y = rs R i y := by
  funext j
  unfold rs
  split <;> rfl
theorem cpA_ge {D S : Nat → Int} {a b i q : Nat} (h : a + i ≤ q) : cpA D S a b i q = D q := if_neg (by omega)
def svP (P R : Nat → Int) (s : Nat) : Nat → Int := if s = 6 then cpA (cpA P P 0 207 1035) R 1035 0 207 else cpA P R (207 * s) 0 207
def svN (s : Nat) : Nat := if s = 6 then 6 else s + 1
-- files that a bad block breaks
def spC (R : Nat → Int) (b : Int) (f : Nat) : Bool := hasIn R f b && decide (ro R f 2 = 0)
def spN (R : Nat → Int) (b : Int) : Nat → (Nat → Int)
  | 0 => R
  | f + 1 => if spC (spN R b f) b f = true then rs (spN R b f) (27 + 18 * f + 2) 1 else spN R b f
def spV (R : Nat → Int) (b : Int) (n : Nat) : Int := sumN (fun f => Bi (spC (spN R b f) b f)) n
theorem RI_br {R : Nat → Int} (h : RI R) {f : Nat} (hf : f < 10) : RI (rs R (27 + 18 * f + 2) 1) := by
  intro g hg
  have h1 := h g hg
  have e : ∀ w, w < 18 → w ≠ 2 → ro (rs R (27 + 18 * f + 2) 1) g w = ro R g w := fun w hw n1 => by rw [ro_rs (by omega) hw, if_neg (by omega)]
  rw [e 0 (by omega) (by omega), e 1 (by omega) (by omega), e 3 (by omega) (by omega), e 4 (by omega) (by omega)]
  refine ⟨h1.1, h1.2.1, h1.2.2.1, h1.2.2.2.1, fun k hk => ?_, ?_⟩
  · rw [e (6 + k) (by omega) (by omega)]
    exact h1.2.2.2.2.1 k hk
  · rw [ro_rs (by omega) (by omega)]
    split
    · exact Or.inr rfl
    · exact h1.2.2.2.2.2
theorem RI_spN {R : Nat → Int} (h : RI R) (b : Int) : ∀ {n : Nat}, n ≤ 10 → RI (spN R b n) := by
  intro n
  induction n with
  | zero => intro _; exact h
  | succ n ih =>
    intro hn
    unfold spN
    split
    · exact RI_br (ih (by omega)) (by omega)
    · exact ih (by omega)
theorem spN_t {R : Nat → Int} {b : Int} {f : Nat} (h : spC (spN R b f) b f = true) : spN R b (f + 1) = rs (spN R b f) (27 + 18 * f + 2) 1 := if_pos h
theorem spN_f {R : Nat → Int} {b : Int} {f : Nat} (h : spC (spN R b f) b f = false) : spN R b (f + 1) = spN R b f := if_neg (by rw [h]; decide)
theorem spC_no {R : Nat → Int} {b : Int} {f : Nat} (h : hasIn R f b = false ∨ ro R f 2 ≠ 0) : spC R b f = false := by
  unfold spC
  rcases h with h | h
  · rw [h, Bool.false_and]
  · rw [decide_eq_false h, Bool.and_false]
theorem spC_yes {R : Nat → Int} {b : Int} {f : Nat} (h : hasIn R f b = true) (h2 : ro R f 2 = 0) : spC R b f = true := by
  unfold spC
  rw [h, decide_eq_true h2]
  rfl
theorem sumN_0 {g : Nat → Int} {i : Nat} (h : g i = 0) : sumN g (i + 1) = sumN g i := by
  show sumN g i + g i = _
  rw [h, Int.add_zero]
def hlB (R : Nat → Int) (b : Nat) : Bool := decide (R (3 + b) = 3) && !(orN (fun f => hasIn R f b) 10)
theorem andN_t {b : Bool} {p : Nat → Bool} {i : Nat} (h : (b && !(orN p i)) = true) : (b && !(orN p (i + 1))) = !(p i) := by
  rw [Bool.and_eq_true] at h
  have h2 : orN p i = false := by cases hq : orN p i <;> simp_all
  rw [h.1, Bool.true_and]
  show (!(orN p i || p i)) = _
  rw [h2, Bool.false_or]
theorem andN_f {b : Bool} {p : Nat → Bool} {i n : Nat} (hi : i ≤ n) (h : (b && !(orN p i)) = false) : (b && !(orN p n)) = false := by
  cases b with
  | false => rfl
  | true =>
    rw [Bool.true_and] at h ⊢
    have h2 : orN p i = true := by cases hq : orN p i <;> simp_all
    rw [orN_mono hi h2]
    rfl
