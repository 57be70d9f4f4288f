/-- a tail comes into the list, behind those that are as long or longer -/
def inL (x len : Int) : Nat → (Nat → Int) → (Nat → Int) → (Nat → Int) × (Nat → Int)
  | 0, E, Lg => (rs E 0 x, rs Lg 0 len)
  | k + 1, E, Lg => if Lg k < len then inL x len k (rs E (k + 1) (E k)) (rs Lg (k + 1) (Lg k)) else (rs E (k + 1) x, rs Lg (k + 1) len)
theorem inL_0 {x len : Int} {a : Nat} {E Lg : Nat → Int} (h : a = 0) : inL x len a E Lg = (rs E a x, rs Lg a len) := by
  subst h
  rfl
theorem inL_stop {x len : Int} {a : Nat} {E Lg : Nat → Int} (h : 0 < a) (h2 : len ≤ Lg (a - 1)) : inL x len a E Lg = (rs E a x, rs Lg a len) := by
  obtain ⟨k, rfl⟩ : ∃ k, a = k + 1 := ⟨a - 1, by omega⟩
  exact if_neg (by rw [Nat.add_sub_cancel] at h2; omega)
theorem inL_go {x len : Int} {a : Nat} {E Lg : Nat → Int} (h : 0 < a) (h2 : Lg (a - 1) < len) : inL x len a E Lg = inL x len (a - 1) (rs E a (E (a - 1))) (rs Lg a (Lg (a - 1))) := by
  obtain ⟨k, rfl⟩ : ∃ k, a = k + 1 := ⟨a - 1, by omega⟩
  rw [Nat.add_sub_cancel] at h2 ⊢
  exact if_pos h2
def clT (Z W : Nat → Int) (f : Nat) : Int := if Z f ≠ -1 ∧ W f = 1 then 0 else (if Z f = -1 then 0 else Z f) % 16
/-- the tails of the first files -/
def clI (Z W E Lg : Nat → Int) : Nat → (Nat → Int) × ((Nat → Int) × Nat)
  | 0 => (E, Lg, 0)
  | f + 1 => if 0 < clT Z W f then ((inL f (clT Z W f) (clI Z W E Lg f).2.2 (clI Z W E Lg f).1 (clI Z W E Lg f).2.1).1, (inL f (clT Z W f) (clI Z W E Lg f).2.2 (clI Z W E Lg f).1 (clI Z W E Lg f).2.1).2, (clI Z W E Lg f).2.2 + 1) else clI Z W E Lg f
theorem clI_bd (Z W E Lg : Nat → Int) : ∀ f, (clI Z W E Lg f).2.2 ≤ f := by
  intro f
  induction f with
  | zero => exact Nat.le_refl 0
  | succ f ih =>
    unfold clI
    split
    · exact Nat.succ_le_succ ih
    · exact Nat.le_succ_of_le ih
theorem clT_bd {Z B S W : Nat → Int} (hD : DI Z B S W) {f : Nat} (hf : f < 10) : 0 ≤ clT Z W f ∧ clT Z W f < 16 := by
  have := (hD f hf).1
  unfold clT
  split
  · omega
  · split <;> omega
