-- the fewest blocks, by sets
def fnx (x t : Int) : Int := if x % 32 + t ≤ 16 then x + t else 32 * (x / 32 + 1) + t
def fbM (B T : Nat → Int) (s : Nat) : Nat → Int
  | 0 => 1024
  | k + 1 => if s / 2 ^ k % 2 = 1 then (if fnx (B (s - 2 ^ k)) (T k) < fbM B T s k then fnx (B (s - 2 ^ k)) (T k) else fbM B T s k) else fbM B T s k
def fbN (B T : Nat → Int) (n : Nat) : Nat → (Nat → Int)
  | 0 => rs B 0 16
  | s + 1 => rs (fbN B T n s) (s + 1) (fbM (fbN B T n s) T (s + 1) n)
theorem fbM_t {B T : Nat → Int} {s k : Nat} (h : s / 2 ^ k % 2 = 1) (h2 : fnx (B (s - 2 ^ k)) (T k) < fbM B T s k) : fbM B T s (k + 1) = fnx (B (s - 2 ^ k)) (T k) := by
  show (if s / 2 ^ k % 2 = 1 then (if fnx (B (s - 2 ^ k)) (T k) < fbM B T s k then fnx (B (s - 2 ^ k)) (T k) else fbM B T s k) else fbM B T s k) = _
  rw [if_pos h, if_pos h2]
theorem fbM_e {B T : Nat → Int} {s k : Nat} (h : s / 2 ^ k % 2 = 1) (h2 : ¬ fnx (B (s - 2 ^ k)) (T k) < fbM B T s k) : fbM B T s (k + 1) = fbM B T s k := by
  show (if s / 2 ^ k % 2 = 1 then (if fnx (B (s - 2 ^ k)) (T k) < fbM B T s k then fnx (B (s - 2 ^ k)) (T k) else fbM B T s k) else fbM B T s k) = _
  rw [if_pos h, if_neg h2]
theorem fbM_f {B T : Nat → Int} {s k : Nat} (h : ¬ s / 2 ^ k % 2 = 1) : fbM B T s (k + 1) = fbM B T s k := if_neg h
theorem bit_le {s k : Nat} (h : s / 2 ^ k % 2 = 1) : 2 ^ k ≤ s := by
  rcases Nat.lt_or_ge s (2 ^ k) with h1 | h1
  · rw [Nat.div_eq_of_lt h1] at h
    omega
  · exact h1
theorem fbM_bd {B T : Nat → Int} {s : Nat} (hB : ∀ q, q < s → 0 ≤ B q) (hT : ∀ k, 0 ≤ T k) : ∀ k, 0 ≤ fbM B T s k ∧ fbM B T s k ≤ 1024 := by
  intro k
  induction k with
  | zero => exact ⟨show (0 : Int) ≤ 1024 by decide, show (1024 : Int) ≤ 1024 by decide⟩
  | succ k ih =>
    by_cases h : s / 2 ^ k % 2 = 1
    · by_cases h2 : fnx (B (s - 2 ^ k)) (T k) < fbM B T s k
      · rw [fbM_t h h2]
        have h3 := bit_le h
        have hp : 0 < 2 ^ k := Nat.two_pow_pos k
        have h4 := hB (s - 2 ^ k) (by omega)
        have h5 := hT k
        refine ⟨?_, by omega⟩
        unfold fnx
        split <;> omega
      · rw [fbM_e h h2]; exact ih
    · rw [fbM_f h]; exact ih
theorem fbN_bd {B T : Nat → Int} {n : Nat} (hT : ∀ k, 0 ≤ T k) : ∀ s q, q ≤ s → 0 ≤ fbN B T n s q ∧ fbN B T n s q ≤ 1024 := by
  intro s
  induction s with
  | zero =>
    intro q hq
    have e : q = 0 := by omega
    subst e
    show 0 ≤ rs B 0 16 0 ∧ rs B 0 16 0 ≤ 1024
    rw [rs_eq]
    decide
  | succ s ih =>
    intro q hq
    show 0 ≤ rs (fbN B T n s) (s + 1) _ q ∧ rs (fbN B T n s) (s + 1) _ q ≤ 1024
    by_cases e : q = s + 1
    · subst e
      rw [rs_eq]
      exact fbM_bd (fun q hq => (ih q (by omega)).1) hT n
    · rw [rs_ne e]
      exact ih q (by omega)
def tlT (R : Nat → Int) (k : Nat) : Int := ro R ((srL R 150).getD k 0) 1 % 16
def fbF (R B : Nat → Int) : Int := fbN B (tlT R) (srL R 150).length (2 ^ (srL R 150).length - 1) (2 ^ (srL R 150).length - 1) / 32
theorem tlT_bd (R : Nat → Int) (k : Nat) : 0 ≤ tlT R k ∧ tlT R k < 16 := by
  unfold tlT
  omega
theorem pow_le {n : Nat} (h : n ≤ 10) : 1 ≤ 2 ^ n ∧ 2 ^ n ≤ 1024 := ⟨Nat.one_le_two_pow, Nat.le_trans (Nat.pow_le_pow_right (by decide : 2 > 0) h) (by decide)⟩
