theorem up_ne {v : Ct} {i j a q : Nat} {x : Int} (h : a ≠ i) : up v i j x a q = v a q := if_neg (fun c => h c.1)
theorem up_eq {v : Ct} {i j : Nat} {x : Int} : up v i j x i j = x := if_pos ⟨rfl, rfl⟩
theorem up_n2 {v : Ct} {i j a q : Nat} {x : Int} (h : q ≠ j) : up v i j x a q = v a q := if_neg (fun c => h c.2)
/-- a disk's cells lie at a, a + 1 .. a + 8 -/
def dsk (T : Ty) (a : Nat) : Prop := T a = (5, 0, lkD a) ∧ T (a + 1) = (1, 24, lkN) ∧ T (a + 2) = (1, 24, lkN) ∧ T (a + 3) = (1, 24, lkN) ∧ T (a + 4) = (1, 10, lkN) ∧ T (a + 5) = (1, 10, lkN) ∧ T (a + 6) = (1, 10, lkN) ∧ T (a + 7) = (1, 10, lkN) ∧ T (a + 8) = (1, 10, lkN)
theorem lkD_at {d k : Nat} (h : k < 8) : lkD d k = ((d + (k + 1) : Nat) : Int) := by
  unfold lkD
  rw [if_pos h]
  omega
theorem dsk_1 {T : Ty} (h : TT T) : dsk T 1 := ⟨tt_1 h, tt_2 h, tt_3 h, tt_4 h, tt_5 h, tt_6 h, tt_7 h, tt_8 h, tt_9 h⟩
/-- the disk b copied onto the disk a, so far -/
def cpd (v : Ct) (a b i j : Nat) (z : Bool) : Ct := fun c q => if (a + 1 ≤ c ∧ c ≤ a + 3 ∧ q < i) ∨ (a + 4 ≤ c ∧ c ≤ a + 8 ∧ q < j) then v (b + (c - a)) q else if z = true ∧ c = a ∧ 8 ≤ q ∧ q ≤ 10 then v b q else v c q
theorem cpd_0 (v : Ct) (a b : Nat) : cpd v a b 0 0 false = v := by
  funext c q
  unfold cpd
  rw [if_neg (by omega), if_neg (by rintro ⟨h, -⟩; cases h)]
theorem cpd_b {v : Ct} {a b i j : Nat} {z : Bool} (hab : a + 9 ≤ b ∨ b + 9 ≤ a) {k q : Nat} (hk : k ≤ 8) : cpd v a b i j z (b + k) q = v (b + k) q := by
  unfold cpd
  rw [if_neg (by omega), if_neg (by omega)]
theorem cpd_o {v : Ct} {a b i j : Nat} {z : Bool} {c q : Nat} (h : c < a ∨ a + 9 ≤ c) : cpd v a b i j z c q = v c q := by
  unfold cpd
  rw [if_neg (by omega), if_neg (by omega)]
theorem cpd_s1 (v : Ct) (a b i : Nat) : up (up (up (cpd v a b i 0 false) (a + 1) i (v (b + 1) i)) (a + 2) i (v (b + 2) i)) (a + 3) i (v (b + 3) i) = cpd v a b (i + 1) 0 false := by
  funext c q
  by_cases hq : q = i
  · subst hq
    by_cases h1 : c = a + 1
    · subst h1
      rw [up_ne (by omega), up_ne (by omega), up_eq]
      unfold cpd
      rw [if_pos (by omega), show b + (a + 1 - a) = b + 1 by omega]
    · by_cases h2 : c = a + 2
      · subst h2
        rw [up_ne (by omega), up_eq]
        unfold cpd
        rw [if_pos (by omega), show b + (a + 2 - a) = b + 2 by omega]
      · by_cases h3 : c = a + 3
        · subst h3
          rw [up_eq]
          unfold cpd
          rw [if_pos (by omega), show b + (a + 3 - a) = b + 3 by omega]
        · rw [up_ne h3, up_ne h2, up_ne h1]
          unfold cpd
          rw [if_neg (by omega), if_neg (c := (a + 1 ≤ c ∧ c ≤ a + 3 ∧ q < q + 1) ∨ (a + 4 ≤ c ∧ c ≤ a + 8 ∧ q < 0)) (by omega)]
  · rw [up_n2 hq, up_n2 hq, up_n2 hq]
    unfold cpd
    have e : ((a + 1 ≤ c ∧ c ≤ a + 3 ∧ q < i) ∨ (a + 4 ≤ c ∧ c ≤ a + 8 ∧ q < 0)) ↔ ((a + 1 ≤ c ∧ c ≤ a + 3 ∧ q < i + 1) ∨ (a + 4 ≤ c ∧ c ≤ a + 8 ∧ q < 0)) := by omega
    simp only [e]
theorem cpd_s2 (v : Ct) (a b i : Nat) : up (up (up (up (up (cpd v a b 24 i false) (a + 4) i (v (b + 4) i)) (a + 5) i (v (b + 5) i)) (a + 6) i (v (b + 6) i)) (a + 7) i (v (b + 7) i)) (a + 8) i (v (b + 8) i) = cpd v a b 24 (i + 1) false := by
  funext c q
  by_cases hq : q = i
  · subst hq
    by_cases h1 : c = a + 4
    · subst h1
      rw [up_ne (by omega), up_ne (by omega), up_ne (by omega), up_ne (by omega), up_eq]
      unfold cpd
      rw [if_pos (by omega), show b + (a + 4 - a) = b + 4 by omega]
    · by_cases h2 : c = a + 5
      · subst h2
        rw [up_ne (by omega), up_ne (by omega), up_ne (by omega), up_eq]
        unfold cpd
        rw [if_pos (by omega), show b + (a + 5 - a) = b + 5 by omega]
      · by_cases h3 : c = a + 6
        · subst h3
          rw [up_ne (by omega), up_ne (by omega), up_eq]
          unfold cpd
          rw [if_pos (by omega), show b + (a + 6 - a) = b + 6 by omega]
        · by_cases h4 : c = a + 7
          · subst h4
            rw [up_ne (by omega), up_eq]
            unfold cpd
            rw [if_pos (by omega), show b + (a + 7 - a) = b + 7 by omega]
          · by_cases h5 : c = a + 8
            · subst h5
              rw [up_eq]
              unfold cpd
              rw [if_pos (by omega), show b + (a + 8 - a) = b + 8 by omega]
            · rw [up_ne h5, up_ne h4, up_ne h3, up_ne h2, up_ne h1]
              unfold cpd
              have e : ((a + 1 ≤ c ∧ c ≤ a + 3 ∧ q < 24) ∨ (a + 4 ≤ c ∧ c ≤ a + 8 ∧ q < q)) ↔ ((a + 1 ≤ c ∧ c ≤ a + 3 ∧ q < 24) ∨ (a + 4 ≤ c ∧ c ≤ a + 8 ∧ q < q + 1)) := by omega
              simp only [e]
  · rw [up_n2 hq, up_n2 hq, up_n2 hq, up_n2 hq, up_n2 hq]
    unfold cpd
    have e : ((a + 1 ≤ c ∧ c ≤ a + 3 ∧ q < 24) ∨ (a + 4 ≤ c ∧ c ≤ a + 8 ∧ q < i)) ↔ ((a + 1 ≤ c ∧ c ≤ a + 3 ∧ q < 24) ∨ (a + 4 ≤ c ∧ c ≤ a + 8 ∧ q < i + 1)) := by omega
    simp only [e]
theorem cpd_s3 (v : Ct) (a b : Nat) : up (up (up (cpd v a b 24 10 false) a 8 (v b 8)) a 9 (v b 9)) a 10 (v b 10) = cpd v a b 24 10 true := by
  funext c q
  by_cases hc : c = a
  · subst hc
    by_cases h8 : q = 8
    · subst h8
      rw [up_n2 (by decide), up_n2 (by decide), up_eq]
      unfold cpd
      rw [if_neg (by omega), if_pos ⟨rfl, rfl, by decide⟩]
    · by_cases h9 : q = 9
      · subst h9
        rw [up_n2 (by decide), up_eq]
        unfold cpd
        rw [if_neg (by omega), if_pos ⟨rfl, rfl, by decide⟩]
      · by_cases h10 : q = 10
        · subst h10
          rw [up_eq]
          unfold cpd
          rw [if_neg (by omega), if_pos ⟨rfl, rfl, by decide⟩]
        · rw [up_n2 h10, up_n2 h9, up_n2 h8]
          unfold cpd
          have e1 : ¬ ((c + 1 ≤ c ∧ c ≤ c + 3 ∧ q < 24) ∨ (c + 4 ≤ c ∧ c ≤ c + 8 ∧ q < 10)) := by omega
          rw [if_neg e1, if_neg e1, if_neg (fun h => Bool.false_ne_true h.1), if_neg (c := true = true ∧ c = c ∧ 8 ≤ q ∧ q ≤ 10) (by omega)]
  · rw [up_ne hc, up_ne hc, up_ne hc]
    unfold cpd
    split
    · rfl
    · rw [if_neg (by rintro ⟨h, -⟩; cases h), if_neg (fun h => hc h.2.1)]
/-- the references moved on -/
def rtN (Q : Nat → Int) (i : Nat) : Nat → Int := fun q => if q + 1 < i then Q (q + 1) else Q q
theorem rtN_1 (Q : Nat → Int) : rtN Q 1 = Q := by funext q; exact if_neg (by omega)
theorem rtN_i (Q : Nat → Int) (i : Nat) : rtN Q i i = Q i := if_neg (by omega)
theorem rtN_s (Q : Nat → Int) {i : Nat} (hi : 1 ≤ i) : rs (rtN Q i) (i - 1) (Q i) = rtN Q (i + 1) := by
  funext q
  unfold rs rtN
  by_cases h : q = i - 1
  · subst h
    rw [if_pos rfl, if_pos (by omega), show i - 1 + 1 = i by omega]
  · rw [if_neg h]
    by_cases h2 : q + 1 < i
    · rw [if_pos h2, if_pos (by omega)]
    · rw [if_neg h2, if_neg (by omega)]
