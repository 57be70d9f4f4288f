def rdOk (D : Nat → Int) : Prop := (0 ≤ D 0 ∧ D 0 < 6) ∧ (D 0 = 4 → 0 ≤ D 3 ∧ D 3 ≤ 200)
theorem oTd_ok {D : Nat → Int} {d : Nat} {c : Int} (h : rdOk D) (hd : D 0 = (d : Int)) : rdOk (oTd D d c) := by
  have h6 := h.1
  rcases (show d = 0 ∨ d = 1 ∨ d = 2 ∨ d = 3 ∨ d = 4 ∨ d = 5 by omega) with rfl | rfl | rfl | rfl | rfl | rfl
  · show rdOk (oSg D c)
    unfold oSg
    split
    · split
      · refine ⟨by rw [rs_eq]; decide, fun q => ?_⟩
        rw [rs_eq] at q
        exact absurd q (by decide)
      · refine ⟨by rw [rs_eq]; decide, fun q => ?_⟩
        rw [rs_eq] at q
        exact absurd q (by decide)
    · exact h
  · show rdOk (oFl D c)
    unfold oFl
    split
    · split
      · refine ⟨by rw [rs_eq]; decide, fun q => ?_⟩
        rw [rs_eq] at q
        exact absurd q (by decide)
      · refine ⟨by rw [rs_eq]; decide, fun q => ?_⟩
        rw [rs_eq] at q
        exact absurd q (by decide)
    · exact h
  · show rdOk (oCl D c)
    unfold oCl
    split
    · refine ⟨by rw [rs_eq]; decide, fun q => ?_⟩
      rw [rs_eq] at q
      exact absurd q (by decide)
    · exact h
  · show rdOk (oFd D c)
    unfold oFd
    split
    · rename_i hq
      refine ⟨by rw [rs_eq]; decide, fun _ => ?_⟩
      rw [rs_ne (by decide), rs_eq]
      omega
    · exact h
  · show rdOk (if c = 59 then rs D 0 0 else oDg D c)
    split
    · refine ⟨by rw [rs_eq]; decide, fun q => ?_⟩
      rw [rs_eq] at q
      exact absurd q (by decide)
    · unfold oDg
      split
      · rename_i hq
        have h4 := h.2 hd
        refine ⟨by rw [rs_ne (by decide)]; exact h.1, fun _ => ?_⟩
        rw [rs_eq]
        omega
      · exact h
  · show rdOk (oSc D c)
    unfold oSc
    split
    · refine ⟨by rw [rs_eq]; decide, fun q => ?_⟩
      rw [rs_eq] at q
      exact absurd q (by decide)
    · exact h
def rdD (U D : Nat → Int) : Nat → (Nat → Int)
  | 0 => rs D 0 0
  | a + 1 => oTd (rdD U D a) (rdD U D a 0).toNat (U a)
theorem rdD_ok (U D : Nat → Int) : ∀ a, rdOk (rdD U D a) := by
  intro a
  induction a with
  | zero =>
    refine ⟨?_, fun q => ?_⟩
    · show 0 ≤ rs D 0 0 0 ∧ rs D 0 0 0 < 6
      rw [rs_eq]
      decide
    · rw [show rdD U D 0 0 = 0 from rs_eq _ _ _] at q
      exact absurd q (by decide)
  | succ a ih => exact oTd_ok ih (by have := ih.1; omega)
def rdB (U D : Nat → Int) (a : Nat) : Bool := !(oTb (rdD U D a) (rdD U D a 0).toNat (U a))
def rdF (U D : Nat → Int) (n : Nat) : Int := firstN (rdB U D) n
def rdV (U D : Nat → Int) (n : Nat) : Int := if rdF U D n = -1 then (n : Int) else rdF U D n
def rdE (U D : Nat → Int) (n : Nat) : Nat → Int := if rdF U D n = -1 then rdD U D n else rdD U D ((rdF U D n).toNat + 1)
