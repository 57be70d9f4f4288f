theorem sa_sa1 {v : Ct} {a b : Nat} (h : a ≠ b) (x y : Nat → Int) : sa (sa v a x) b y = sa (sa v b y) a x := by
  funext c
  unfold sa
  by_cases h1 : c = a
  · rw [if_neg (by omega), if_pos h1, if_pos h1]
  · rw [if_neg h1, if_neg h1]
-- what a text's order does
def doV (R : Nat → Int) (x : Int) (a b : Nat) : Int := if x = 43 then crV R a else if ro R a 0 = 1 then (if x = 45 then dlV R a else if x = 62 then opV (gwO R a b) else opV (cuO R a b)) else -1
def doR (R : Nat → Int) (x : Int) (a b : Nat) : Nat → Int := if x = 43 then crR R a else if ro R a 0 = 1 then (if x = 45 then dlR R a else if x = 62 then opR R (gwO R a b) else opR R (cuO R a b)) else R
def doA (A R : Nat → Int) (x : Int) (a : Nat) : Nat → Int := if x = 43 then cpA A R 0 0 207 else if ro R a 0 = 1 then (if x = 45 then A else cpA A R 0 0 207) else A
/-- the run of a text: goes it on, the place, the count, the numbers, what was laid aside, the row -/
abbrev RnS : Type := Bool × (Nat × (Nat × ((Nat → Int) × ((Nat → Int) × (Nat → Int)))))
def rnC (n : Nat) (S : RnS) : Bool := S.1 && decide (S.2.1 < n)
def rnH (U : Nat → Int) (n : Nat) (S : RnS) : Nat → Int := pRh U n S.2.1 S.2.2.2.1
def rnX (U : Nat → Int) (n : Nat) (S : RnS) : Int := pRk U n S.2.1 S.2.2.2.1
def rnV (U : Nat → Int) (n : Nat) (S : RnS) : Int := doV S.2.2.2.2.2 (rnX U n S) (rnH U n S 0).toNat (rnH U n S 1).toNat
def rnT (U : Nat → Int) (n : Nat) (S : RnS) : RnS :=
  (decide (rnV U n S ≠ -1), pRp U n S.2.1 S.2.2.2.1 + 1, S.2.2.1 + (if rnV U n S ≠ -1 then 1 else 0), rnH U n S, doA S.2.2.2.2.1 S.2.2.2.2.2 (rnX U n S) (rnH U n S 0).toNat, doR S.2.2.2.2.2 (rnX U n S) (rnH U n S 0).toNat (rnH U n S 1).toNat)
def rnI (U : Nat → Int) (n : Nat) (H A R : Nat → Int) (i : Nat) : RnS := itN (rnC n) (rnT U n) (true, 0, 0, H, A, R) i
/-- an order may be done -/
def rnOk (U : Nat → Int) (n : Nat) (S : RnS) : Prop :=
  (rnX U n S = 43 ∨ rnX U n S = 45 ∨ rnX U n S = 60 ∨ rnX U n S = 62) ∧ (0 ≤ rnH U n S 0 ∧ rnH U n S 0 ≤ 200) ∧ (0 ≤ rnH U n S 1 ∧ rnH U n S 1 ≤ 200) ∧ (rnX U n S ≠ 43 → rnH U n S 0 < 10) ∧ (rnX U n S = 60 → 1 ≤ rnH U n S 1) ∧ RI S.2.2.2.2.2 ∧ i32 (rnV U n S)
theorem rnI_mu {U : Nat → Int} {n : Nat} {H A R : Nat → Int} {i : Nat} (h : rnC n (rnI U n H A R i) = true) : i ≤ (rnI U n H A R i).2.1 := by
  have h2 := itN_mu (S := (true, 0, 0, H, A, R)) (t := rnT U n) (mu := fun S : RnS => S.2.1) (fun S hc ht => ?_) i h
  · exact Nat.le_trans (Nat.le_add_left _ _) h2
  · unfold rnC at hc
    simp only [Bool.and_eq_true, decide_eq_true_eq] at hc
    have := pRp_bd (U := U) (H := S.2.2.2.1) (show S.2.1 ≤ n by omega)
    show S.2.1 + 1 ≤ pRp U n S.2.1 S.2.2.2.1 + 1
    omega
theorem rnI_s {U : Nat → Int} {n : Nat} {H A R : Nat → Int} {i : Nat} (h : rnC n (rnI U n H A R i) = true) : rnI U n H A R (i + 1) = rnT U n (rnI U n H A R i) := itN_t h
