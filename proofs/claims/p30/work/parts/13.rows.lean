-- one array anew; one place of a row anew
def sa (v : Ct) (a : Nat) (R : Nat → Int) : Ct := fun c => if c = a then R else v c
def rs (R : Nat → Int) (i : Nat) (x : Int) : Nat → Int := fun j => if j = i then x else R j
theorem sa_self (v : Ct) (a : Nat) : v = sa v a (v a) := by
  funext c
  unfold sa
  split
  · rename_i h; rw [h]
  · rfl
theorem sa_up0 (v : Ct) (a : Nat) (R : Nat → Int) (q : Nat) (x : Int) : up (sa v a R) a q x = sa v a (rs R q x) := by
  funext c j
  unfold up sa rs
  by_cases h : c = a <;> by_cases h2 : j = q <;> simp [h, h2]
theorem sa_up1 {v : Ct} {a c : Nat} (h : a ≠ c) (R : Nat → Int) (q : Nat) (x : Int) : up (sa v c R) a q x = sa (up v a q x) c R := by
  funext e j
  unfold up sa
  by_cases h1 : e = c
  · subst h1
    simp [h.symm]
  · simp [h1]
theorem sa_comm {v : Ct} {a c : Nat} (h : a ≠ c) (R S : Nat → Int) : sa (sa v a R) c S = sa (sa v c S) a R := by
  funext e
  unfold sa
  by_cases h1 : e = c
  · subst h1
    simp [h.symm]
  · simp [h1]
theorem sa_sa (v : Ct) (a : Nat) (R S : Nat → Int) : sa (sa v a R) a S = sa v a S := by
  funext e
  unfold sa
  split <;> rfl
theorem sa_eq (v : Ct) (a : Nat) (R : Nat → Int) : sa v a R a = R := if_pos rfl
theorem sa_ne {v : Ct} {a c : Nat} (h : c ≠ a) (R : Nat → Int) : sa v a R c = v c := if_neg h
theorem rs_eq (R : Nat → Int) (i : Nat) (x : Int) : rs R i x i = x := if_pos rfl
theorem rs_ne {R : Nat → Int} {i j : Nat} (h : j ≠ i) (x : Int) : rs R i x j = R j := if_neg h
theorem ro_rs {R : Nat → Int} {f g w w2 : Nat} {x : Int} (h1 : w < 18) (h2 : w2 < 18) : ro (rs R (27 + 18 * f + w) x) g w2 = if g = f ∧ w2 = w then x else ro R g w2 := by
  show rs R (27 + 18 * f + w) x (27 + 18 * g + w2) = _
  unfold rs
  by_cases h : g = f ∧ w2 = w
  · rw [if_pos h, if_pos (by omega)]
  · rw [if_neg h, if_neg (by omega)]
theorem ro_rsb {R : Nat → Int} {g w2 i : Nat} {x : Int} (h : i < 27) : ro (rs R i x) g w2 = ro R g w2 := rs_ne (by omega) x
theorem rk_rs {R : Nat → Int} {f w b : Nat} {x : Int} (h : b < 27) : rs R (27 + 18 * f + w) x b = R b := rs_ne (by omega) x
-- what is stored of an int that may have wrapped
def wr (x : Int) : Int := (x + 2147483648) % 4294967296 - 2147483648
theorem wr_i32 (x : Int) : i32 (wr x) := by
  unfold wr
  omega
theorem wr_id {x : Int} (h : i32 x) : wr x = x := by
  unfold wr
  omega
theorem ofInt_wr (x : Int) : Int32.ofInt (wr x) = Int32.ofInt x := by
  rw [← Int32.toInt_inj, i32_to (wr_i32 x), Int32.toInt_ofInt]
  unfold wr
  show _ = Int.bmod x 4294967296
  unfold Int.bmod
  simp only []
  omega
theorem M_wr {κ : KX} {N : Nat} {T : Ty} {pc : Nat} {L : List (Option MV)} {st : List MV} {v : Ct} {k n : Nat} {Q : State → Prop} {x : Int} (kk : M κ N T pc L (vI (wr x) :: st) v k n Q) : M κ N T pc L (vI x :: st) v k n Q := by
  obtain ⟨p, l, e, R, s, m, args, below, meth, c, b, δ⟩ := κ
  intro H locs ls hR hS hL
  have h := kk H locs ls hR hS hL
  simp only [List.map_cons, tv, ofInt_wr] at h ⊢
  exact h
-- copies
def cpA (D S : Nat → Int) (a b i : Nat) : Nat → Int := fun q => if a ≤ q ∧ q < a + i then S (b + (q - a)) else D q
theorem cpA_0 (D S : Nat → Int) (a b : Nat) : cpA D S a b 0 = D := by
  funext q
  unfold cpA
  rw [if_neg (by omega)]
theorem cpA_s (D S : Nat → Int) (a b i : Nat) : rs (cpA D S a b i) (a + i) (S (b + i)) = cpA D S a b (i + 1) := by
  funext q
  unfold rs cpA
  by_cases h : q = a + i
  · subst h
    rw [if_pos rfl, if_pos (by omega), show a + i - a = i by omega]
  · rw [if_neg h]
    by_cases h2 : a ≤ q ∧ q < a + i
    · rw [if_pos h2, if_pos (by omega)]
    · rw [if_neg h2, if_neg (by omega)]
-- blocks that become free
def tiF (R : Nat → Int) (b : Int) : Int := sumN (fun f => Bi (hasT R f b)) 10
theorem tiF_bd (R : Nat → Int) (b : Int) : 0 ≤ tiF R b ∧ tiF R b ≤ 10 := by
  have := sumN_bd (g := fun f => Bi (hasT R f b)) (a := 1) (by decide) 10 (fun i _ => Bi_bd _)
  unfold tiF
  omega
def frC (R : Nat → Int) (b : Nat) : Bool := decide (R (3 + b) = 2 ∧ tiF R b ≤ 0)
def frR (R : Nat → Int) (b : Nat) : Nat → Int := if frC R b = true then rs R (3 + b) 0 else R
theorem frR_t {R : Nat → Int} {b : Nat} (h : R (3 + b) = 2 ∧ tiF R b ≤ 0) : frR R b = rs R (3 + b) 0 := if_pos (decide_eq_true h)
theorem frR_f {R : Nat → Int} {b : Nat} (h : ¬ (R (3 + b) = 2 ∧ tiF R b ≤ 0)) : frR R b = R := if_neg (by rw [show frC R b = false from decide_eq_false h]; decide)
theorem RI_rsb {R : Nat → Int} (h : RI R) {i : Nat} (hi : i < 27) (x : Int) : RI (rs R i x) := by
  intro f hf
  have h1 := h f hf
  simp only [ro_rsb hi]
  exact h1
theorem RI_frR {R : Nat → Int} (h : RI R) {b : Nat} (hb : b < 24) : RI (frR R b) := by
  unfold frR
  split
  · exact RI_rsb h (by omega) 0
  · exact h
/-- a tail taken away, its block as it was -/
def tk0 (R : Nat → Int) (f : Nat) : Nat → Int := rs (rs (rs R (27 + 18 * f + 1) (16 * (ro R f 1 / 16))) (27 + 18 * f + 3) (-1)) (27 + 18 * f + 4) (-1)
def tkR (R : Nat → Int) (f : Nat) : Nat → Int := if 0 < ro R f 1 % 16 then frR (tk0 R f) (ro R f 3).toNat else tk0 R f
theorem RI_tk0 {R : Nat → Int} (h : RI R) {f : Nat} (hf : f < 10) : RI (tk0 R f) := by
  intro g hg
  have h1 := h g hg
  have e : ∀ w, w < 18 → ro (tk0 R f) g w = if g = f ∧ w = 4 then -1 else if g = f ∧ w = 3 then -1 else if g = f ∧ w = 1 then 16 * (ro R f 1 / 16) else ro R g w := by
    intro w hw
    unfold tk0
    rw [ro_rs (by omega) hw, ro_rs (by omega) hw, ro_rs (by omega) hw]
  rw [e 0 (by omega), e 1 (by omega), e 2 (by omega), e 3 (by omega), e 4 (by omega)]
  by_cases hgf : g = f
  · subst hgf
    simp only [true_and]
    refine ⟨by simpa using h1.1, ?_, ?_, ?_, ?_, by simpa using h1.2.2.2.2.2⟩
    · simp
      omega
    · simp
      (try omega)
    · simp
    · intro k hk
      simp at hk
      have h2 := h1.2.2.2.2.1 k (by omega)
      rw [e (6 + k) (by omega)]
      rw [if_neg (by omega), if_neg (by omega), if_neg (by omega)]
      exact h2
  · simp only [hgf, false_and, if_false]
    refine ⟨h1.1, h1.2.1, h1.2.2.1, h1.2.2.2.1, fun k hk => ?_, h1.2.2.2.2.2⟩
    have h2 := h1.2.2.2.2.1 k hk
    rw [e (6 + k) (by omega)]
    simp only [hgf, false_and, if_false]
    exact h2
def ptR (R : Nat → Int) (f : Nat) (c : Int) : Nat → Int :=
  let R1 := rs (rs (rs R (3 + (plcF R c).toNat / 16) 2) (27 + 18 * f + 3) (plcF R c / 16)) (27 + 18 * f + 4) (plcF R c % 16)
  let R2 := rs R1 (27 + 18 * f + 1) (wr (ro R1 f 1 + c))
  rs R2 (27 + 18 * f + 5) (wr (ro R2 f 5 + 1))
def ptO (R : Nat → Int) (f : Nat) (c : Int) : Option (Nat → Int) := if c = 0 then some R else if plcF R c = -1 then none else some (ptR R f c)
theorem plcF_bd (R : Nat → Int) (c : Int) : -1 ≤ plcF R c ∧ plcF R c < 384 := by
  have h1 := gapF_bd R c
  have h2 := lowF_bd R
  unfold plcF
  split
  · omega
  · split
    · omega
    · omega
def twS (R : Nat → Int) (f : Nat) : Nat → Int :=
  let R1 := rs R (3 + (lowF R).toNat) 1
  let R2 := rs R1 (27 + 18 * f + (6 + (ro R1 f 1 / 16).toNat)) (lowF R)
  rs R2 (27 + 18 * f + 1) (wr (ro R2 f 1 + 16))
def twO (R : Nat → Int) (f : Nat) : Nat → Option (Nat → Int)
  | 0 => some R
  | n + 1 => if lowF R = -1 then none else twO (twS R f) f n
theorem twS_eq {R : Nat → Int} {f : Nat} (h1 : 0 ≤ ro R f 1 ∧ ro R f 1 + 16 ≤ 200) : twS R f = rs (rs (rs R (3 + (lowF R).toNat) 1) (27 + 18 * f + (6 + (ro R f 1 / 16).toNat)) (lowF R)) (27 + 18 * f + 1) (ro R f 1 + 16) := by
  have hl := lowF_bd R
  have e1 : ro (rs R (3 + (lowF R).toNat) 1) f 1 = ro R f 1 := ro_rsb (by omega)
  have e2 : ro (rs (rs R (3 + (lowF R).toNat) 1) (27 + 18 * f + (6 + (ro R f 1 / 16).toNat)) (lowF R)) f 1 = ro R f 1 := by
    rw [ro_rs (by omega) (by omega), if_neg (by omega), e1]
  show rs (rs (rs R (3 + (lowF R).toNat) 1) (27 + 18 * f + (6 + (ro (rs R (3 + (lowF R).toNat) 1) f 1 / 16).toNat)) (lowF R)) (27 + 18 * f + 1) (wr (ro (rs (rs R (3 + (lowF R).toNat) 1) (27 + 18 * f + (6 + (ro (rs R (3 + (lowF R).toNat) 1) f 1 / 16).toNat)) (lowF R)) f 1 + 16)) = _
  rw [e1, e2, wr_id (by omega)]
theorem twS_ro {R : Nat → Int} {f : Nat} (h1 : 0 ≤ ro R f 1 ∧ ro R f 1 + 16 ≤ 200) {g w : Nat} (hw : w < 18) : ro (twS R f) g w = if g = f ∧ w = 1 then ro R f 1 + 16 else if g = f ∧ w = 6 + (ro R f 1 / 16).toNat then lowF R else ro R g w := by
  have hl := lowF_bd R
  rw [twS_eq h1, ro_rs (by omega) hw, ro_rs (by omega) hw, ro_rsb (by omega)]
theorem twS_hi {R : Nat → Int} {f : Nat} (hf : f < 10) (h1 : 0 ≤ ro R f 1 ∧ ro R f 1 + 16 ≤ 200) {j : Nat} (hj : 207 ≤ j) : twS R f j = R j := by
  have hl := lowF_bd R
  rw [twS_eq h1, rs_ne (by omega), rs_ne (by omega), rs_ne (by omega)]
theorem RI_twS {R : Nat → Int} {f : Nat} (hf : f < 10) (hI : RI R) (h1 : ro R f 1 + 16 ≤ 200) (h0 : ro R f 1 % 16 = 0) (hl0 : lowF R ≠ -1) : RI (twS R f) := by
  have h3 := (hI f hf).2.1
  have hl := lowF_bd R
  intro g hg
  have h2 := hI g hg
  have e : ∀ w, w < 18 → w ≠ 1 → w ≠ 6 + (ro R f 1 / 16).toNat → ro (twS R f) g w = ro R g w := fun w hw n1 n2 => by
    rw [twS_ro ⟨h3.1, h1⟩ hw, if_neg (by omega), if_neg (by omega)]
  rw [e 0 (by omega) (by omega) (by omega), e 2 (by omega) (by omega) (by omega), e 3 (by omega) (by omega) (by omega), e 4 (by omega) (by omega) (by omega)]
  by_cases hgf : g = f
  · subst hgf
    rw [show ro (twS R g) g 1 = ro R g 1 + 16 by rw [twS_ro ⟨h3.1, h1⟩ (by omega), if_pos ⟨rfl, rfl⟩]]
    refine ⟨h2.1, by omega, fun q => absurd q (by omega), h2.2.2.2.1, fun k hk => ?_, h2.2.2.2.2.2⟩
    by_cases hk2 : k = (ro R g 1 / 16).toNat
    · rw [twS_ro ⟨h3.1, h1⟩ (by omega), if_neg (by omega), if_pos ⟨rfl, by omega⟩]
      omega
    · rw [e (6 + k) (by omega) (by omega) (by omega)]
      exact h2.2.2.2.2.1 k (by omega)
  · have e9 : ∀ w, w < 18 → ro (twS R f) g w = ro R g w := fun w hw => by
      rw [twS_ro ⟨h3.1, h1⟩ hw, if_neg (by omega), if_neg (by omega)]
    rw [e9 1 (by omega)]
    refine ⟨h2.1, h2.2.1, h2.2.2.1, h2.2.2.2.1, fun k hk => ?_, h2.2.2.2.2.2⟩
    rw [e9 (6 + k) (by omega)]
    exact h2.2.2.2.2.1 k hk
