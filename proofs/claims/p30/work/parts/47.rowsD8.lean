theorem lnN_z {Z : Nat → Int} {f : Nat} (h : lnN Z = (f : Int)) : f < 10 ∧ Z f = -1 := by
  rcases firstN_cases (fun f => decide (Z f = -1)) 10 with ⟨h1, -⟩ | ⟨i, h1, h2, h3, -⟩
  · unfold lnN at h
    rw [h1] at h
    omega
  · unfold lnN at h
    rw [h2] at h
    have e : i = f := by omega
    subst e
    exact ⟨h1, of_decide_eq_true h3⟩
theorem goN_le {K Z B S W : Nat → Int} {f : Nat} {n : Int} (h : goN K Z B S W f n ≠ -1) : W f ≠ 1 ∧ Z f + n ≤ 200 := by
  unfold goN at h
  by_cases h1 : W f = 1 ∨ 200 < Z f + n
  · rw [if_pos h1] at h
    exact absurd rfl h
  · omega
