def dS (U D : Nat → Int) (p : Nat) : Nat → (Nat → Int)
  | 0 => D
  | a + 1 => oTd (dS U D p a) (dS U D p a 0).toNat (U (p + a))
def dOk (U D : Nat → Int) (p a : Nat) : Prop := ∀ i, i < a → oTb (dS U D p i) (dS U D p i 0).toNat (U (p + i)) = true
section TXT
variable {U D H : Nat → Int} {n p : Nat}
theorem dS_add (a : Nat) : ∀ b, dS U D p (a + b) = dS U (dS U D p a) (p + a) b := by
  intro b
  induction b with
  | zero => rfl
  | succ b ih =>
    show oTd (dS U D p (a + b)) (dS U D p (a + b) 0).toNat (U (p + (a + b))) = oTd (dS U (dS U D p a) (p + a) b) (dS U (dS U D p a) (p + a) b 0).toNat (U (p + a + b))
    rw [ih, show p + (a + b) = p + a + b by omega]
theorem dOk_0 : dOk U D p 0 := fun i h => absurd h (Nat.not_lt_zero i)
theorem dOk_add {a b : Nat} (h1 : dOk U D p a) (h2 : dOk U (dS U D p a) (p + a) b) : dOk U D p (a + b) := fun i hi => by
  by_cases q : i < a
  · exact h1 i q
  · have h3 := h2 (i - a) (by omega)
    obtain ⟨c, hc⟩ : ∃ c, i = a + c := ⟨i - a, by omega⟩
    subst hc
    rw [Nat.add_sub_cancel_left] at h3
    rw [dS_add, show p + (a + c) = p + a + c by omega]
    exact h3
theorem dOk_1 (h : oTb D (D 0).toNat (U p) = true) : dOk U D p 1 := fun i hi => by
  have e : i = 0 := by omega
  subst e
  exact h
-- a number
theorem num_no {k : Nat} {l : Int} (h : pSee U n p (48 + l) 57 = false) (hl : (l = 0 ∧ D 1 = 43) ∨ (l = 1 ∧ D 1 ≠ 43)) : pNp U n p H k l = p ∧ (p < n → oTb D 3 (U p) = false) := by
  refine ⟨by unfold pNp; rw [h]; rfl, fun hp => ?_⟩
  rw [pSee_yes hp] at h
  have := inB_false h
  show decide ((48 ≤ U p ∧ U p ≤ 57) ∧ ¬ (U p = 48 ∧ D 1 ≠ 43)) = false
  exact decide_eq_false (by omega)
theorem num_ok {k : Nat} {l : Int} (hn : n ≤ 60) (h : pSee U n p (48 + l) 57 = true) (hD : D 0 = 3) (hl : (l = 0 ∧ D 1 = 43) ∨ (l = 1 ∧ D 1 ≠ 43)) :
    ∃ a, 1 ≤ a ∧ pNp U n p H k l = p + a ∧ p + a ≤ n ∧ dOk U D p a ∧ dS U D p a 0 = 4 ∧ dS U D p a 1 = D 1 ∧ dS U D p a 2 = D 2 ∧ dS U D p a 3 = pNh U n p H k l k ∧ (∀ j, p ≤ j → j < p + a → 48 ≤ U j ∧ U j ≤ 57) ∧ (p + a < n → U (p + a) ≠ 59 → oTb (dS U D p a) 4 (U (p + a)) = false) ∧ (l ≤ dS U D p a 3 ∧ dS U D p a 3 ≤ 200) := by
  obtain ⟨hp, h48, h57⟩ := pSee_lt h
  have e1 : pNp U n p H k l = (nuI U n k p H 60).1 := by unfold pNp; rw [if_pos h]
  have e2 : pNh U n p H k l = (nuI U n k p H 60).2 := by unfold pNh; rw [if_pos h]
  rw [e1, e2]
  have hacc : oTb D 3 (U p) = true := by
    show decide ((48 ≤ U p ∧ U p ≤ 57) ∧ ¬ (U p = 48 ∧ D 1 ≠ 43)) = true
    exact decide_eq_true (by omega)
  have hI : ∀ i, ∃ a, 1 ≤ a ∧ (nuI U n k p H i).1 = p + a ∧ p + a ≤ n ∧ dOk U D p a ∧ dS U D p a 0 = 4 ∧ dS U D p a 1 = D 1 ∧ dS U D p a 2 = D 2 ∧ dS U D p a 3 = (nuI U n k p H i).2 k ∧ (∀ j, p ≤ j → j < p + a → 48 ≤ U j ∧ U j ≤ 57) ∧ (l ≤ dS U D p a 3 ∧ dS U D p a 3 ≤ 200) := by
    intro i
    induction i with
    | zero =>
      have hs : dS U D p 1 = rs (rs D 3 (U p - 48)) 0 4 := by
        show oTd D (D 0).toNat (U (p + 0)) = _
        rw [hD]
        show oFd D (U p) = _
        unfold oFd
        rw [if_pos (by omega)]
      refine ⟨1, Nat.le_refl 1, rfl, hp, dOk_1 (by rw [hD]; exact hacc), ?_, ?_, ?_, ?_, fun j h1 h2 => ?_, ?_⟩
      · rw [hs, rs_eq]
      · rw [hs, rs_ne (by decide), rs_ne (by decide)]
      · rw [hs, rs_ne (by decide), rs_ne (by decide)]
      · rw [hs, rs_ne (by decide), rs_eq]
        show _ = rs H k (U p - 48) k
        rw [rs_eq]
      · have e : j = p := by omega
        subst e
        omega
      · rw [hs, rs_ne (by decide), rs_eq]; omega
    | succ i ih =>
      obtain ⟨a, c1, c2, c3, c4, c5, c6, c7, c8, c9, c10⟩ := ih
      cases hc : nuC U n k (nuI U n k p H i) with
      | false =>
        have e : nuI U n k p H (i + 1) = nuI U n k p H i := itN_f hc
        rw [e]
        exact ⟨a, c1, c2, c3, c4, c5, c6, c7, c8, c9, c10⟩
      | true =>
        have hx := hc
        unfold nuC at hx
        obtain ⟨x1, x2⟩ := Bool.and_eq_true_iff.mp hx
        obtain ⟨x2, x3⟩ := Bool.and_eq_true_iff.mp x2
        have x1 := of_decide_eq_true x1
        have x3 := of_decide_eq_true x3
        obtain ⟨y1, y2, y3⟩ := pSee_lt x2
        rw [c2] at x3 y1 y2 y3
        rw [nuI_s hc, c2]
        have hac : oTb (dS U D p a) (dS U D p a 0).toNat (U (p + a)) = true := by
          rw [c5]
          show (if U (p + a) = 59 then true else decide ((48 ≤ U (p + a) ∧ U (p + a) ≤ 57) ∧ dS U D p a 3 ≠ 0 ∧ 10 * dS U D p a 3 + U (p + a) - 48 ≤ 200)) = true
          rw [if_neg (by omega)]
          exact decide_eq_true (by omega)
        have hs : dS U D p (a + 1) = rs (dS U D p a) 3 (10 * dS U D p a 3 + U (p + a) - 48) := by
          show oTd (dS U D p a) (dS U D p a 0).toNat (U (p + a)) = _
          rw [c5]
          show (if U (p + a) = 59 then rs (dS U D p a) 0 0 else oDg (dS U D p a) (U (p + a))) = _
          rw [if_neg (by omega)]
          unfold oDg
          rw [if_pos (by omega)]
        refine ⟨a + 1, by omega, rfl, by omega, dOk_add c4 (dOk_1 hac), ?_, ?_, ?_, ?_, fun j h1 h2 => ?_, ?_⟩
        · rw [hs, rs_ne (by decide)]; exact c5
        · rw [hs, rs_ne (by decide)]; exact c6
        · rw [hs, rs_ne (by decide)]; exact c7
        · rw [hs, rs_eq, c8]
          show _ = rs _ k _ k
          rw [rs_eq]
        · by_cases e : j = p + a
          · subst e; omega
          · exact c9 j h1 (by omega)
        · rw [hs, rs_eq]
          omega
  obtain ⟨a, c1, c2, c3, c4, c5, c6, c7, c8, c9, c10⟩ := hI 60
  refine ⟨a, c1, c2, c3, c4, c5, c6, c7, c8, c9, fun hlt h59 => ?_, c10⟩
  have hf : nuC U n k (nuI U n k p H 60) = false := by
    cases hc : nuC U n k (nuI U n k p H 60) with
    | false => rfl
    | true =>
      have := nuI_mu hc
      rw [c2] at this
      omega
  show (if U (p + a) = 59 then true else decide ((48 ≤ U (p + a) ∧ U (p + a) ≤ 57) ∧ dS U D p a 3 ≠ 0 ∧ 10 * dS U D p a 3 + U (p + a) - 48 ≤ 200)) = false
  rw [if_neg h59]
  refine decide_eq_false fun q => ?_
  have : nuC U n k (nuI U n k p H 60) = true := nuC_t (by rw [← c8]; omega) (by rw [c2, pSee_yes hlt]; exact inB_t q.1.1 q.1.2) (by rw [c2, ← c8]; exact q.2.2)
  rw [hf] at this
  cases this
/-- an order, read from a place where one may begin -/
theorem ord (hn : n ≤ 60) (hp : p ≤ n) (hD : D 0 = 0) : ∃ a, pRp U n p H = p + a ∧ p + a ≤ n ∧ dOk U D p a ∧
    (pRk U n p H ≠ 0 → 1 ≤ a ∧ pRk U n p H = U p ∧ (U p = 43 ∨ U p = 45 ∨ U p = 60 ∨ U p = 62) ∧ dS U D p a 1 = U p ∧ (dS U D p a 0 = 4 ∨ dS U D p a 0 = 5) ∧ (p + a < n → U (p + a) ≠ 59 → oTb (dS U D p a) (dS U D p a 0).toNat (U (p + a)) = false) ∧ (∀ j, p ≤ j → j < p + a → 43 ≤ U j ∧ U j ≠ 59) ∧
      (U p = 43 → dS U D p a 3 = pRh U n p H 0 ∧ 0 ≤ dS U D p a 3 ∧ dS U D p a 3 ≤ 200) ∧ (U p = 45 → dS U D p a 2 = pRh U n p H 0 ∧ 0 ≤ dS U D p a 2 ∧ dS U D p a 2 ≤ 9) ∧
      (U p = 60 ∨ U p = 62 → dS U D p a 2 = pRh U n p H 0 ∧ (0 ≤ dS U D p a 2 ∧ dS U D p a 2 ≤ 9) ∧ dS U D p a 3 = pRh U n p H 1 ∧ 1 ≤ dS U D p a 3 ∧ dS U D p a 3 ≤ 200)) ∧
    (pRk U n p H = 0 → (p + a < n → oTb (dS U D p a) (dS U D p a 0).toNat (U (p + a)) = false) ∧ dS U D p a 0 ≠ 4 ∧ dS U D p a 0 ≠ 5) := by
  by_cases hs : (decide (p < n) && pSg (U p)) = true
  · obtain ⟨s1, s2⟩ := Bool.and_eq_true_iff.mp hs
    have s1 := of_decide_eq_true s1
    have s3 : U p = 43 ∨ U p = 45 ∨ U p = 60 ∨ U p = 62 := of_decide_eq_true s2
    have ek : pRk U n p H = if (pRdS U n (U p) (p + 1) H).1 = true then U p else 0 := by unfold pRk; rw [if_pos hs]
    have ep : pRp U n p H = (pRdS U n (U p) (p + 1) H).2.1 := by unfold pRp; rw [if_pos hs]
    have eh : pRh U n p H = (pRdS U n (U p) (p + 1) H).2.2 := by unfold pRh; rw [if_pos hs]
    rw [ek, ep, eh]
    have hac : oTb D (D 0).toNat (U p) = true := by
      rw [hD]
      show decide (U p = 43 ∨ U p = 45 ∨ U p = 60 ∨ U p = 62) = true
      exact decide_eq_true s3
    have hok1 : dOk U D p 1 := dOk_1 hac
    obtain ⟨D1, hD1⟩ : ∃ D1, D1 = dS U D p 1 := ⟨_, rfl⟩
    have hs1 : D1 = rs (rs D 1 (U p)) 0 (if U p = 43 then 3 else 1) := by
      rw [hD1]
      show oTd D (D 0).toNat (U (p + 0)) = _
      rw [hD]
      show oSg D (U p) = _
      unfold oSg
      rw [if_pos s3]
    have d1 : D1 1 = U p := by rw [hs1, rs_ne (by decide), rs_eq]
    by_cases h43 : U p = 43
    · -- a file comes
      have d0 : D1 0 = 3 := by rw [hs1, rs_eq, if_pos h43]
      have er : pRdS U n (U p) (p + 1) H = (pSee U n (p + 1) (48 + 0) 57, pNp U n (p + 1) H 0 0, pNh U n (p + 1) H 0 0) := by unfold pRdS; rw [if_pos h43]
      rw [er]
      dsimp only
      cases hsee : pSee U n (p + 1) (48 + 0) 57 with
      | true =>
        obtain ⟨a, c1, c2, c3, c4, c5, c6, c7, c8, c9, c10, c11⟩ := num_ok (D := D1) (H := H) (k := 0) hn hsee d0 (Or.inl ⟨rfl, by rw [d1, h43]⟩)
        have ea : dS U D p (1 + a) = dS U D1 (p + 1) a := by rw [dS_add, ← hD1]
        rw [if_pos rfl]
        refine ⟨1 + a, by rw [c2]; omega, by omega, dOk_add hok1 (by rw [← hD1]; exact c4), fun _ => ?_, fun q => by omega⟩
        rw [ea, c5, c6, d1, c8, show p + (1 + a) = p + 1 + a by omega]
        refine ⟨by omega, rfl, s3, rfl, Or.inl rfl, c10, fun j h1 h2 => ?_, fun _ => ⟨rfl, by omega⟩, fun q => by omega, fun q => by omega⟩
        by_cases e : j = p
        · subst e; omega
        · have := c9 j (by omega) h2
          omega
      | false =>
        obtain ⟨c1, c2⟩ := num_no (D := D1) (H := H) (k := 0) hsee (Or.inl ⟨rfl, by rw [d1, h43]⟩)
        rw [if_neg Bool.false_ne_true]
        refine ⟨1, by rw [c1], by omega, hok1, fun q => absurd rfl q, fun _ => ?_⟩
        rw [← hD1, d0]
        exact ⟨c2, by decide, by decide⟩
    · have d0 : D1 0 = 1 := by rw [hs1, rs_eq, if_neg h43]
      have hno1 : p + 1 < n → pSee U n (p + 1) (48 + 0) 57 = false → oTb D1 1 (U (p + 1)) = false := fun h1 h2 => by
        rw [pSee_yes h1] at h2
        have := inB_false h2
        show decide (48 ≤ U (p + 1) ∧ U (p + 1) ≤ 57) = false
        exact decide_eq_false (by omega)
      have hfile : pSee U n (p + 1) (48 + 0) 57 = true → ∃ D2, D2 = dS U D p 2 ∧ dOk U D p 2 ∧ p + 2 ≤ n ∧ D2 0 = (if U p = 45 then 5 else 2) ∧ D2 1 = U p ∧ D2 2 = U (p + 1) - 48 ∧ 48 ≤ U (p + 1) ∧ U (p + 1) ≤ 57 := fun h => by
        obtain ⟨q1, q2, q3⟩ := pSee_lt h
        have hs2 : dS U D p 2 = rs (rs D1 2 (U (p + 1) - 48)) 0 (if U p = 45 then 5 else 2) := by
          show oTd (dS U D p 1) (dS U D p 1 0).toNat (U (p + 1)) = _
          rw [← hD1, d0]
          show oFl D1 (U (p + 1)) = _
          unfold oFl
          rw [if_pos (by omega), d1]
        refine ⟨_, rfl, dOk_add hok1 (dOk_1 ?_), by omega, ?_, ?_, ?_, by omega, by omega⟩
        · rw [← hD1, d0]
          show decide (48 ≤ U (p + 1) ∧ U (p + 1) ≤ 57) = true
          exact decide_eq_true (by omega)
        · rw [hs2, rs_eq]
        · rw [hs2, rs_ne (by decide), rs_ne (by decide)]; exact d1
        · rw [hs2, rs_ne (by decide), rs_eq]
      by_cases h45 : U p = 45
      · -- a file is deleted
        have er : pRdS U n (U p) (p + 1) H = (pSee U n (p + 1) (48 + 0) 57, pDp U n (p + 1) 0, pDh U n (p + 1) H 0 0) := by unfold pRdS; rw [if_neg h43, if_pos h45]
        rw [er]
        dsimp only
        cases hsee : pSee U n (p + 1) (48 + 0) 57 with
        | true =>
          obtain ⟨D2, f1, f2, f3, f4, f5, f6, f7, f8⟩ := hfile hsee
          rw [if_pos rfl]
          have e1 : pDp U n (p + 1) 0 = p + 2 := by unfold pDp; rw [if_pos hsee]
          have e2 : pDh U n (p + 1) H 0 0 0 = U (p + 1) - 48 := by unfold pDh; rw [if_pos hsee, rs_eq]
          rw [if_pos h45] at f4
          refine ⟨2, e1, f3, f2, fun _ => ?_, fun q => by omega⟩
          rw [← f1, f4, f5, f6, e2]
          refine ⟨by decide, rfl, s3, rfl, Or.inr rfl, fun _ h2 => ?_, fun j h1 h2 => ?_, fun q => by omega, fun _ => ⟨rfl, by omega⟩, fun q => by omega⟩
          · show decide (U (p + 2) = 59) = false
            exact decide_eq_false h2
          · by_cases e : j = p
            · subst e; omega
            · have e3 : j = p + 1 := by omega
              subst e3; omega
        | false =>
          rw [if_neg Bool.false_ne_true]
          refine ⟨1, by unfold pDp; rw [hsee]; rfl, by omega, hok1, fun q => absurd rfl q, fun _ => ?_⟩
          rw [← hD1, d0]
          exact ⟨fun h => hno1 h hsee, by decide, by decide⟩
      · -- a file grows, or is cut
        cases hsee : pSee U n (p + 1) (48 + 0) 57 with
        | true =>
          obtain ⟨D2, f1, f2, f3, f4, f5, f6, f7, f8⟩ := hfile hsee
          rw [if_neg h45] at f4
          cases hcol : pSee U n (p + 1 + 1) 58 58 with
          | true =>
            obtain ⟨q1, q2, q3⟩ := pSee_lt hcol
            have er : pRdS U n (U p) (p + 1) H = (pSee U n (p + 1 + 2) (48 + 1) 57, pNp U n (p + 1 + 2) (rs H 0 (U (p + 1) - 48)) 1 1, pNh U n (p + 1 + 2) (rs H 0 (U (p + 1) - 48)) 1 1) := by
              unfold pRdS
              rw [if_neg h43, if_neg h45, if_pos hsee, if_pos hcol]
            rw [er]
            dsimp only
            have hcc : U (p + 2) = 58 := by
              have : p + 1 + 1 = p + 2 := by omega
              rw [this] at q2 q3
              omega
            obtain ⟨D3, hD3⟩ : ∃ D3, D3 = dS U D p 3 := ⟨_, rfl⟩
            have hs3 : D3 = rs D2 0 3 := by
              rw [hD3]
              show oTd (dS U D p 2) (dS U D p 2 0).toNat (U (p + 2)) = _
              rw [← f1, f4]
              show oCl D2 (U (p + 2)) = _
              unfold oCl
              rw [if_pos hcc]
            have hok3 : dOk U D p 3 := dOk_add f2 (dOk_1 (by
              rw [← f1, f4]
              show decide (U (p + 2) = 58) = true
              exact decide_eq_true hcc))
            have g0 : D3 0 = 3 := by rw [hs3, rs_eq]
            have g1 : D3 1 = U p := by rw [hs3, rs_ne (by decide)]; exact f5
            have g2 : D3 2 = U (p + 1) - 48 := by rw [hs3, rs_ne (by decide)]; exact f6
            cases hse2 : pSee U n (p + 1 + 2) (48 + 1) 57 with
            | true =>
              obtain ⟨a, c1, c2, c3, c4, c5, c6, c7, c8, c9, c10, c11⟩ := num_ok (D := D3) (H := rs H 0 (U (p + 1) - 48)) (k := 1) hn hse2 g0 (Or.inr ⟨rfl, by rw [g1]; exact h43⟩)
              have ea : dS U D p (3 + a) = dS U D3 (p + 1 + 2) a := by rw [dS_add, ← hD3, show p + 3 = p + 1 + 2 by omega]
              have eh0 : pNh U n (p + 1 + 2) (rs H 0 (U (p + 1) - 48)) 1 1 0 = U (p + 1) - 48 := by
                have e3 : pNh U n (p + 1 + 2) (rs H 0 (U (p + 1) - 48)) 1 1 = (nuI U n 1 (p + 1 + 2) (rs H 0 (U (p + 1) - 48)) 60).2 := by unfold pNh; rw [if_pos hse2]
                rw [e3]
                have hinv : ∀ i, (nuI U n 1 (p + 1 + 2) (rs H 0 (U (p + 1) - 48)) i).2 0 = U (p + 1) - 48 := by
                  intro i
                  refine itN_inv (I := fun S : Nat × (Nat → Int) => S.2 0 = U (p + 1) - 48) ?_ (fun S _ hS => ?_) i
                  · show rs (rs H 0 (U (p + 1) - 48)) 1 (U (p + 1 + 2) - 48) 0 = _
                    rw [rs_ne (by decide), rs_eq]
                  · show rs S.2 1 (10 * S.2 1 + U S.1 - 48) 0 = _
                    rw [rs_ne (by decide)]
                    exact hS
                exact hinv 60
              rw [if_pos rfl]
              refine ⟨3 + a, by rw [c2]; omega, by omega, dOk_add hok3 (by rw [← hD3, show p + 3 = p + 1 + 2 by omega]; exact c4), fun _ => ?_, fun q => by omega⟩
              rw [ea, c5, c6, c7, g1, g2, c8, eh0, show p + (3 + a) = p + 1 + 2 + a by omega]
              refine ⟨by omega, rfl, s3, rfl, Or.inl rfl, c10, fun j h1 h2 => ?_, fun q => by omega, fun q => by omega, fun _ => ⟨rfl, by omega, rfl, by omega⟩⟩
              by_cases e : j = p
              · subst e; omega
              · by_cases e1 : j = p + 1
                · subst e1; omega
                · by_cases e2 : j = p + 2
                  · subst e2; omega
                  · have := c9 j (by omega) h2
                    omega
            | false =>
              obtain ⟨c1, c2⟩ := num_no (D := D3) (H := rs H 0 (U (p + 1) - 48)) (k := 1) hse2 (Or.inr ⟨rfl, by rw [g1]; exact h43⟩)
              rw [if_neg Bool.false_ne_true]
              refine ⟨3, by rw [c1], by omega, hok3, fun q => absurd rfl q, fun _ => ?_⟩
              rw [← hD3, g0]
              exact ⟨c2, by decide, by decide⟩
          | false =>
            have er : pRdS U n (U p) (p + 1) H = (false, p + 1 + 1, rs H 0 (U (p + 1) - 48)) := by
              unfold pRdS
              rw [if_neg h43, if_neg h45, if_pos hsee, hcol, if_neg Bool.false_ne_true]
            rw [er]
            dsimp only
            rw [if_neg Bool.false_ne_true]
            refine ⟨2, rfl, f3, f2, fun q => absurd rfl q, fun _ => ?_⟩
            rw [← f1, f4]
            refine ⟨fun h => ?_, by decide, by decide⟩
            have h2 := hcol
            rw [pSee_yes (by omega)] at h2
            have h3 := inB_false h2
            show decide (U (p + 2) = 58) = false
            have : p + 1 + 1 = p + 2 := by omega
            rw [this] at h3
            exact decide_eq_false (by omega)
        | false =>
          have er : pRdS U n (U p) (p + 1) H = (false, p + 1, H) := by
            unfold pRdS
            rw [if_neg h43, if_neg h45, hsee, if_neg Bool.false_ne_true]
          rw [er]
          dsimp only
          rw [if_neg Bool.false_ne_true]
          refine ⟨1, rfl, by omega, hok1, fun q => absurd rfl q, fun _ => ?_⟩
          rw [← hD1, d0]
          exact ⟨fun h => hno1 h hsee, by decide, by decide⟩
  · have ek : pRk U n p H = 0 := by unfold pRk; rw [if_neg hs]
    have ep : pRp U n p H = p := by unfold pRp; rw [if_neg hs]
    rw [ek, ep]
    refine ⟨0, rfl, hp, dOk_0, fun q => absurd rfl q, fun _ => ?_⟩
    show (p + 0 < n → oTb D (D 0).toNat (U (p + 0)) = false) ∧ D 0 ≠ 4 ∧ D 0 ≠ 5
    rw [hD]
    refine ⟨fun h => ?_, by decide, by decide⟩
    show decide (U p = 43 ∨ U p = 45 ∨ U p = 60 ∨ U p = 62) = false
    refine decide_eq_false fun q => hs ?_
    rw [decide_eq_true (show p < n from h), Bool.true_and]
    exact decide_eq_true q
end TXT
