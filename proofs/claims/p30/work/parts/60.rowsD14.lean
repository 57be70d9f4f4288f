def soB (SB SL Lg : Nat → Int) (r k : Nat) : Int := if SL r + Lg k ≤ 16 then SB r else SB r + 1
def soL (SL Lg : Nat → Int) (r k : Nat) : Int := if SL r + Lg k ≤ 16 then SL r + Lg k else Lg k
/-- a set's blocks and load, from the sets with one tail less -/
def soP (SB SL Lg : Nat → Int) (s : Nat) : Nat → Int × Int
  | 0 => (11, 16)
  | k + 1 => if s / 2 ^ k % 2 = 1 then
      (if soB SB SL Lg (s - 2 ^ k) k < (soP SB SL Lg s k).1 ∨ (soB SB SL Lg (s - 2 ^ k) k = (soP SB SL Lg s k).1 ∧ soL SL Lg (s - 2 ^ k) k < (soP SB SL Lg s k).2) then (soB SB SL Lg (s - 2 ^ k) k, soL SL Lg (s - 2 ^ k) k) else soP SB SL Lg s k)
    else soP SB SL Lg s k
theorem soP_n {SB SL Lg : Nat → Int} {s k : Nat} (h : ¬ s / 2 ^ k % 2 = 1) : soP SB SL Lg s (k + 1) = soP SB SL Lg s k := if_neg h
theorem soP_w {SB SL Lg : Nat → Int} {s k : Nat} (h : s / 2 ^ k % 2 = 1) (h2 : soB SB SL Lg (s - 2 ^ k) k < (soP SB SL Lg s k).1 ∨ (soB SB SL Lg (s - 2 ^ k) k = (soP SB SL Lg s k).1 ∧ soL SL Lg (s - 2 ^ k) k < (soP SB SL Lg s k).2)) : soP SB SL Lg s (k + 1) = (soB SB SL Lg (s - 2 ^ k) k, soL SL Lg (s - 2 ^ k) k) := (if_pos h).trans (if_pos h2)
theorem soP_k {SB SL Lg : Nat → Int} {s k : Nat} (h : s / 2 ^ k % 2 = 1) (h2 : ¬ (soB SB SL Lg (s - 2 ^ k) k < (soP SB SL Lg s k).1 ∨ (soB SB SL Lg (s - 2 ^ k) k = (soP SB SL Lg s k).1 ∧ soL SL Lg (s - 2 ^ k) k < (soP SB SL Lg s k).2))) : soP SB SL Lg s (k + 1) = soP SB SL Lg s k := (if_pos h).trans (if_neg h2)
theorem soP_bd {SB SL Lg : Nat → Int} {s : Nat} (hB : ∀ q, q < s → 0 ≤ SB q ∧ SB q ≤ 11) (hS : ∀ q, q < s → 0 ≤ SL q ∧ SL q ≤ 16) (hL : ∀ k, k < 10 → s / 2 ^ k % 2 = 1 → 0 ≤ Lg k ∧ Lg k < 16) : ∀ k, k ≤ 10 → (0 ≤ (soP SB SL Lg s k).1 ∧ (soP SB SL Lg s k).1 ≤ 11) ∧ 0 ≤ (soP SB SL Lg s k).2 ∧ (soP SB SL Lg s k).2 ≤ 16 := by
  intro k
  induction k with
  | zero => intro _; exact ⟨⟨show (0 : Int) ≤ 11 by decide, show (11 : Int) ≤ 11 by decide⟩, show (0 : Int) ≤ 16 by decide, show (16 : Int) ≤ 16 by decide⟩
  | succ k ih =>
    intro hk
    have h0 := ih (by omega)
    by_cases h : s / 2 ^ k % 2 = 1
    · have h3 := bit_le h
      have hp : 0 < 2 ^ k := Nat.two_pow_pos k
      have h4 := hS (s - 2 ^ k) (by omega)
      have h5 := hL k (by omega) h
      have h6 := hB (s - 2 ^ k) (by omega)
      by_cases h2 : soB SB SL Lg (s - 2 ^ k) k < (soP SB SL Lg s k).1 ∨ (soB SB SL Lg (s - 2 ^ k) k = (soP SB SL Lg s k).1 ∧ soL SL Lg (s - 2 ^ k) k < (soP SB SL Lg s k).2)
      · rw [soP_w h h2]
        refine ⟨⟨?_, ?_⟩, ?_⟩
        · show 0 ≤ soB SB SL Lg (s - 2 ^ k) k
          unfold soB
          split <;> omega
        · show soB SB SL Lg (s - 2 ^ k) k ≤ 11
          omega
        · show 0 ≤ soL SL Lg (s - 2 ^ k) k ∧ soL SL Lg (s - 2 ^ k) k ≤ 16
          unfold soL
          split <;> omega
      · rw [soP_k h h2]; exact h0
    · rw [soP_n h]; exact h0
