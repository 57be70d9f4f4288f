-- the files in order: the longest tails first
def srC (R : Nat → Int) (a f : Nat) : Bool := isPk R f && decide (ro R f 1 % 16 = 15 - (a : Int))
def srL (R : Nat → Int) : Nat → List Nat
  | 0 => []
  | j + 1 => if srC R (j / 10) (j % 10) = true then srL R j ++ [j % 10] else srL R j
theorem srL_t {R : Nat → Int} {a i : Nat} (hi : i < 10) (h : srC R a i = true) : srL R (10 * a + i + 1) = srL R (10 * a + i) ++ [i] := by
  show (if srC R ((10 * a + i) / 10) ((10 * a + i) % 10) = true then srL R (10 * a + i) ++ [(10 * a + i) % 10] else srL R (10 * a + i)) = _
  rw [show (10 * a + i) / 10 = a by omega, show (10 * a + i) % 10 = i by omega, if_pos h]
theorem srL_f {R : Nat → Int} {a i : Nat} (hi : i < 10) (h : srC R a i = false) : srL R (10 * a + i + 1) = srL R (10 * a + i) := by
  show (if srC R ((10 * a + i) / 10) ((10 * a + i) % 10) = true then srL R (10 * a + i) ++ [(10 * a + i) % 10] else srL R (10 * a + i)) = _
  rw [show (10 * a + i) / 10 = a by omega, show (10 * a + i) % 10 = i by omega, if_neg (by rw [h]; decide)]
theorem srL_in {R : Nat → Int} : ∀ {j f : Nat}, f ∈ srL R j → f < 10 ∧ isPk R f = true ∧ (15 - ((j / 10 : Nat) : Int) < ro R f 1 % 16 ∨ (ro R f 1 % 16 = 15 - ((j / 10 : Nat) : Int) ∧ f < j % 10)) := by
  intro j
  induction j with
  | zero => intro f h; cases h
  | succ j ih =>
    intro f h
    have h1 : f ∈ srL R j ∨ (srC R (j / 10) (j % 10) = true ∧ f = j % 10) := by
      unfold srL at h
      split at h
      · rename_i hc
        rcases List.mem_append.mp h with h | h
        · exact Or.inl h
        · exact Or.inr ⟨hc, by simpa using h⟩
      · exact Or.inl h
    rcases h1 with h1 | ⟨h1, h2⟩
    · obtain ⟨a, b, c⟩ := ih h1
      exact ⟨a, b, by omega⟩
    · unfold srC at h1
      rw [Bool.and_eq_true, decide_eq_true_eq] at h1
      subst h2
      exact ⟨by omega, h1.1, by omega⟩
theorem len_ne (m : Nat) : ∀ {l : List Nat}, l.Nodup → l.length ≤ (l.filter (fun x => decide (x ≠ m))).length + 1 := by
  intro l
  induction l with
  | nil => intro _; exact Nat.zero_le _
  | cons a t ih =>
    intro h
    obtain ⟨h1, h2⟩ := List.nodup_cons.mp h
    by_cases e : a = m
    · have h3 : t.filter (fun x => decide (x ≠ m)) = t := List.filter_eq_self.mpr fun x hx => decide_eq_true fun q => h1 (by rw [e, ← q]; exact hx)
      rw [List.filter_cons, if_neg (by simp [e]), h3]
      exact Nat.le_refl _
    · have h3 := ih h2
      rw [List.filter_cons, if_pos (by simp [e])]
      simp only [List.length_cons]
      omega
theorem pig : ∀ (m : Nat) {l : List Nat}, l.Nodup → (∀ x ∈ l, x < m) → l.length ≤ m := by
  intro m
  induction m with
  | zero =>
    intro l _ h2
    cases l with
    | nil => exact Nat.le_refl _
    | cons a t => exact absurd (h2 a List.mem_cons_self) (Nat.not_lt_zero _)
  | succ m ih =>
    intro l h1 h2
    have h3 := len_ne m h1
    have h4 := ih (l := l.filter (fun x => decide (x ≠ m))) (h1.filter _) (fun x hx => by
      obtain ⟨a, b⟩ := List.mem_filter.mp hx
      have := h2 x a
      have := of_decide_eq_true b
      omega)
    omega
theorem srL_nd (R : Nat → Int) : ∀ j, (srL R j).Nodup := by
  intro j
  induction j with
  | zero => exact List.nodup_nil
  | succ j ih =>
    unfold srL
    split
    · refine List.nodup_append.mpr ⟨ih, by simp, fun x hx y hy => ?_⟩
      rw [List.mem_singleton] at hy
      subst hy
      intro e
      subst e
      have := (srL_in hx).2.2
      rename_i hc
      unfold srC at hc
      rw [Bool.and_eq_true, decide_eq_true_eq] at hc
      omega
    · exact ih
theorem srL_len (R : Nat → Int) (j : Nat) : (srL R j).length ≤ 10 := pig 10 (srL_nd R j) fun x hx => (srL_in hx).1
def wrO (O : Nat → Int) (l : List Nat) : Nat → Int := fun q => if q < l.length then ((l.getD q 0 : Nat) : Int) else O q
theorem wrO_0 (O : Nat → Int) : wrO O [] = O := by
  funext q
  exact if_neg (Nat.not_lt_zero q)
theorem wrO_s (O : Nat → Int) (l : List Nat) (x : Nat) : rs (wrO O l) l.length (x : Int) = wrO O (l ++ [x]) := by
  funext q
  unfold rs wrO
  simp only [List.length_append, List.length_cons, List.length_nil]
  by_cases h : q = l.length
  · subst h
    rw [if_pos rfl, if_pos (by omega)]
    congr 1
    simp [List.getD_eq_getElem?_getD]
  · rw [if_neg h]
    by_cases h2 : q < l.length
    · rw [if_pos h2, if_pos (by omega)]
      congr 1
      simp [List.getD_eq_getElem?_getD, List.getElem?_append_left h2]
    · rw [if_neg h2, if_neg (by omega)]
theorem srC_no {R : Nat → Int} {a f : Nat} (h : isPk R f = false ∨ ro R f 1 % 16 ≠ 15 - (a : Int)) : srC R a f = false := by
  unfold srC
  rcases h with h | h
  · rw [h, Bool.false_and]
  · rw [decide_eq_false h, Bool.and_false]
theorem srC_yes {R : Nat → Int} {a f : Nat} (h : isPk R f = true) (h2 : ro R f 1 % 16 = 15 - (a : Int)) : srC R a f = true := by
  unfold srC
  rw [h, decide_eq_true h2]
  rfl
-- packing
def fiP (Fl : Nat → Int) (c : Int) (b : Nat) : Bool := decide (0 ≤ Fl b) && decide (Fl b + c ≤ 16)
def fiF (Fl : Nat → Int) (c : Int) : Int := firstN (fiP Fl c) 24
theorem fiF_bd (Fl : Nat → Int) (c : Int) : -1 ≤ fiF Fl c ∧ fiF Fl c < 24 := firstN_bd _ 24
theorem fiF_at {Fl : Nat → Int} {c : Int} (h : fiF Fl c ≠ -1) : 0 ≤ Fl (fiF Fl c).toNat ∧ Fl (fiF Fl c).toNat + c ≤ 16 := by
  rcases firstN_cases (fiP Fl c) 24 with ⟨h1, -⟩ | ⟨i, h1, h2, h3, -⟩
  · exact absurd h1 h
  · have e : (fiF Fl c).toNat = i := by
      unfold fiF
      rw [h2]
      exact Int.toNat_natCast i
    rw [e]
    unfold fiP at h3
    rw [Bool.and_eq_true, decide_eq_true_eq, decide_eq_true_eq] at h3
    exact h3
def pl0 (R : Nat → Int) (b : Nat) : Int := if R (3 + b) = 2 ∧ orN (hldB R b) 10 = false then 0 else -1
def pl0A (R F : Nat → Int) (i : Nat) : Nat → Int := fun q => if q < i then pl0 R q else F q
theorem pl0A_0 (R F : Nat → Int) : pl0A R F 0 = F := by
  funext q
  exact if_neg (Nat.not_lt_zero q)
theorem pl0A_s {R F : Nat → Int} {i : Nat} {x : Int} (h : pl0 R i = x) : rs (pl0A R F i) i x = pl0A R F (i + 1) := by
  funext q
  unfold rs pl0A
  by_cases e : q = i
  · subst e
    rw [if_pos rfl, if_pos (by omega), h]
  · rw [if_neg e]
    by_cases h2 : q < i
    · rw [if_pos h2, if_pos (by omega)]
    · rw [if_neg h2, if_neg (by omega)]
def pkR (R Fl : Nat → Int) (f : Nat) : Nat → Int :=
  let b := fiF Fl (ro R f 1 % 16)
  let R1 := rs (rs R (27 + 18 * f + 3) b) (27 + 18 * f + 4) (Fl b.toNat)
  rs R1 (27 + 18 * f + 5) (wr (ro R1 f 5 + 1))
def pkFl (R Fl : Nat → Int) (f : Nat) : Nat → Int := rs Fl (fiF Fl (ro R f 1 % 16)).toNat (Fl (fiF Fl (ro R f 1 % 16)).toNat + ro R f 1 % 16)
def pkN : List Nat → (Nat → Int) → (Nat → Int) → Option (Nat → Int)
  | [], R, _ => some R
  | f :: l, R, Fl => if fiF Fl (ro R f 1 % 16) = -1 then none else pkN l (pkR R Fl f) (pkFl R Fl f)
theorem pkR_ro {R Fl : Nat → Int} {f g w : Nat} (hw : w < 18) : ro (pkR R Fl f) g w = if g = f ∧ w = 5 then wr (ro R f 5 + 1) else if g = f ∧ w = 4 then Fl (fiF Fl (ro R f 1 % 16)).toNat else if g = f ∧ w = 3 then fiF Fl (ro R f 1 % 16) else ro R g w := by
  show ro (rs (rs (rs R (27 + 18 * f + 3) _) (27 + 18 * f + 4) _) (27 + 18 * f + 5) (wr (ro (rs (rs R (27 + 18 * f + 3) _) (27 + 18 * f + 4) _) f 5 + 1))) g w = _
  rw [ro_rs (by omega) hw, ro_rs (by omega) hw, ro_rs (by omega) hw, ro_rs (by omega) (by omega), ro_rs (by omega) (by omega), if_neg (show ¬(f = f ∧ 5 = 4) by omega), if_neg (show ¬(f = f ∧ 5 = 3) by omega)]
theorem pkR_b {R Fl : Nat → Int} {f b : Nat} (hb : b < 27) : pkR R Fl f b = R b := by
  show rs (rs (rs R (27 + 18 * f + 3) _) (27 + 18 * f + 4) _) (27 + 18 * f + 5) _ b = R b
  rw [rk_rs hb, rk_rs hb, rk_rs hb]
theorem pkR_hi {R Fl : Nat → Int} {f j : Nat} (hf : f < 10) (hj : 207 ≤ j) : pkR R Fl f j = R j := by
  show rs (rs (rs R (27 + 18 * f + 3) _) (27 + 18 * f + 4) _) (27 + 18 * f + 5) _ j = R j
  rw [rs_ne (by omega), rs_ne (by omega), rs_ne (by omega)]
theorem RI_pkR {R Fl : Nat → Int} {f : Nat} (hI : RI R) (hf : f < 10) (hb : fiF Fl (ro R f 1 % 16) ≠ -1) : RI (pkR R Fl f) := by
  have hbd := fiF_bd Fl (ro R f 1 % 16)
  have hat := fiF_at hb
  intro g hg
  have h := hI g hg
  have e : ∀ w, w < 18 → w ≠ 5 → w ≠ 4 → w ≠ 3 → ro (pkR R Fl f) g w = ro R g w := fun w hw n1 n2 n3 => by rw [pkR_ro hw, if_neg (by omega), if_neg (by omega), if_neg (by omega)]
  rw [e 0 (by omega) (by omega) (by omega) (by omega), e 1 (by omega) (by omega) (by omega) (by omega), e 2 (by omega) (by omega) (by omega) (by omega)]
  refine ⟨h.1, h.2.1, ?_, ?_, fun k hk => ?_, h.2.2.2.2.2⟩
  · by_cases hgf : g = f
    · subst hgf
      rw [pkR_ro (by omega), if_neg (by omega), if_neg (by omega), if_pos ⟨rfl, rfl⟩, pkR_ro (by omega), if_neg (by omega), if_pos ⟨rfl, rfl⟩]
      intro _
      omega
    · rw [pkR_ro (by omega), if_neg (by omega), if_neg (by omega), if_neg (by omega), pkR_ro (by omega), if_neg (by omega), if_neg (by omega), if_neg (by omega)]
      exact h.2.2.1
  · by_cases hgf : g = f
    · subst hgf
      rw [pkR_ro (by omega), if_neg (by omega), if_pos ⟨rfl, rfl⟩]
      omega
    · rw [pkR_ro (by omega), if_neg (by omega), if_neg (by omega), if_neg (by omega)]
      exact h.2.2.2.1
  · rw [e (6 + k) (by omega) (by omega) (by omega) (by omega)]
    exact h.2.2.2.2.1 k hk
def fzN (R : Nat → Int) : Nat → (Nat → Int)
  | 0 => R
  | b + 1 => frR (fzN R b) b
theorem RI_fzN {R : Nat → Int} (h : RI R) : ∀ {n : Nat}, n ≤ 24 → RI (fzN R n) := by
  intro n
  induction n with
  | zero => intro _; exact h
  | succ n ih => intro hn; exact RI_frR (ih (by omega)) (by omega)
def pkZ (R2 : Nat → Int) : Nat → Int := rs (fzN R2 24) 1 (wr (fzN R2 24 1 + 1))
def pkO (R : Nat → Int) : Option (Nat → Int) := (pkN (srL R 150) R (fun b => pl0 R b)).map pkZ
def pkV (R : Nat → Int) : Int := match pkO R with
  | some R3 => cntK R 2 - cntK R3 2
  | none => -1
def pkRR (R : Nat → Int) : Nat → Int := match pkO R with
  | some R3 => R3
  | none => R
theorem firstN_congr {p q : Nat → Bool} : ∀ (n : Nat), (∀ i, i < n → p i = q i) → firstN p n = firstN q n := by
  intro n
  induction n with
  | zero => intro _; rfl
  | succ n ih =>
    intro h
    show (if firstN p n = -1 then (if p n = true then (n : Int) else -1) else firstN p n) = (if firstN q n = -1 then (if q n = true then (n : Int) else -1) else firstN q n)
    rw [ih (fun i hi => h i (by omega)), h n (by omega)]
theorem fiF_congr {F G : Nat → Int} (h : ∀ b, b < 24 → F b = G b) (c : Int) : fiF F c = fiF G c := firstN_congr 24 (fun b hb => by unfold fiP; rw [h b hb])
theorem pkN_congr : ∀ (l : List Nat) {R F G : Nat → Int}, (∀ b, b < 24 → F b = G b) → pkN l R F = pkN l R G := by
  intro l
  induction l with
  | nil => intro R F G _; rfl
  | cons f l ih =>
    intro R F G h
    have hbd := fiF_bd G (ro R f 1 % 16)
    show (if fiF F (ro R f 1 % 16) = -1 then none else pkN l (pkR R F f) (pkFl R F f)) = (if fiF G (ro R f 1 % 16) = -1 then none else pkN l (pkR R G f) (pkFl R G f))
    rw [fiF_congr h]
    by_cases e : fiF G (ro R f 1 % 16) = -1
    · rw [if_pos e, if_pos e]
    · rw [if_neg e, if_neg e]
      have e1 : pkR R F f = pkR R G f := by
        unfold pkR
        dsimp only
        rw [fiF_congr h, h _ (show (fiF G (ro R f 1 % 16)).toNat < 24 by omega)]
      rw [e1]
      refine ih fun b hb => ?_
      unfold pkFl
      rw [fiF_congr h, h _ (show (fiF G (ro R f 1 % 16)).toNat < 24 by omega)]
      unfold rs
      rw [h b hb]
theorem pkN_c {f : Nat} {l : List Nat} {R F : Nat → Int} (h : fiF F (ro R f 1 % 16) ≠ -1) : pkN (f :: l) R F = pkN l (pkR R F f) (pkFl R F f) := if_neg h
theorem pkN_n {f : Nat} {l : List Nat} {R F : Nat → Int} (h : fiF F (ro R f 1 % 16) = -1) : pkN (f :: l) R F = none := if_pos h
