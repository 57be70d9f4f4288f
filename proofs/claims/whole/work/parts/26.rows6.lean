theorem ptO_hi {R R2 : Nat → Int} {f : Nat} {c : Int} (hf : f < 10) (h : ptO R f c = some R2) {j : Nat} (hj : 207 ≤ j) : R2 j = R j := by
  unfold ptO at h
  split at h
  · cases h; rfl
  · split at h
    · cases h
    · cases h; exact ptR_hi hf hj
theorem gwO_hi {R : Nat → Int} {f n : Nat} (hI : RI R) (hf : f < 10) {j : Nat} (hj : 207 ≤ j) : opR R (gwO R f n) j = R j := by
  have hf1 := hI f hf
  have htk := tkR_1 hI hf
  unfold gwO
  split
  · show rfR R j = R j
    exact rs_ne (by omega) _
  · rename_i h1
    split
    · show rs R _ _ j = R j
      exact rs_ne (by omega) _
    · cases h2 : twO (tkR R f) f ((ro R f 1 + n).toNat / 16 - (ro R f 1 / 16).toNat) with
      | none => show rfR R j = R j; exact rs_ne (by omega) _
      | some R4 =>
        have h3 := twO_out hf _ _ _ (RI_tkR hI hf) (by omega) (by omega) h2
        cases h4 : ptO R4 f (((ro R f 1 + n).toNat % 16 : Nat) : Int) with
        | none => simp only [Option.bind_some, h4, Option.map_none]; show rfR R j = R j; exact rs_ne (by omega) _
        | some R5 =>
          simp only [Option.bind_some, h4, Option.map_some]
          show R5 j = R j
          rw [ptO_hi hf h4 hj, h3.2.2 j hj, tkR_hi hI hf hj]
theorem pkN_hi : ∀ (l : List Nat) {R F R2 : Nat → Int}, (∀ f ∈ l, f < 10) → pkN l R F = some R2 → ∀ j, 207 ≤ j → R2 j = R j := by
  intro l
  induction l with
  | nil => intro R F R2 _ h j hj; cases h; rfl
  | cons f l ih =>
    intro R F R2 hl h j hj
    by_cases hb : fiF F (ro R f 1 % 16) = -1
    · rw [pkN_n hb] at h; cases h
    · rw [pkN_c hb] at h
      rw [ih (fun g hg => hl g (List.mem_cons_of_mem _ hg)) h j hj, pkR_hi (hl f List.mem_cons_self) hj]
theorem fzN_hi {R : Nat → Int} {j : Nat} (hj : 207 ≤ j) : ∀ {n : Nat}, n ≤ 24 → fzN R n j = R j := by
  intro n
  induction n with
  | zero => intro _; rfl
  | succ n ih => intro hn; exact (frR_hi (by omega) hj).trans (ih (by omega))
theorem pkRR_hi {R : Nat → Int} {j : Nat} (hj : 207 ≤ j) : pkRR R j = R j := by
  unfold pkRR pkO
  cases h : pkN (srL R 150) R (fun b => pl0 R b) with
  | none => rfl
  | some R2 =>
    show rs (fzN R2 24) 1 _ j = R j
    rw [rs_ne (by omega), fzN_hi hj (by omega)]
    exact pkN_hi _ (fun f hf => (srL_in hf).1) h j hj
-- the fewest blocks, by sets
def fnx (x t : Int) : Int := if x % 32 + t ≤ 16 then x + t else 32 * (x / 32 + 1) + t
def fbM (B T : Nat → Int) (s : Nat) : Nat → Int
  | 0 => 1024
  | k + 1 => if s / 2 ^ k % 2 = 1 then (if fnx (B (s - 2 ^ k)) (T k) < fbM B T s k then fnx (B (s - 2 ^ k)) (T k) else fbM B T s k) else fbM B T s k
def fbN (B T : Nat → Int) (n : Nat) : Nat → (Nat → Int)
  | 0 => rs B 0 16
  | s + 1 => rs (fbN B T n s) (s + 1) (fbM (fbN B T n s) T (s + 1) n)
theorem fbM_t {B T : Nat → Int} {s k : Nat} (h : s / 2 ^ k % 2 = 1) (h2 : fnx (B (s - 2 ^ k)) (T k) < fbM B T s k) : fbM B T s (k + 1) = fnx (B (s - 2 ^ k)) (T k) := by
  show (if s / 2 ^ k % 2 = 1 then (if fnx (B (s - 2 ^ k)) (T k) < fbM B T s k then fnx (B (s - 2 ^ k)) (T k) else fbM B T s k) else fbM B T s k) = _
  rw [if_pos h, if_pos h2]
theorem fbM_e {B T : Nat → Int} {s k : Nat} (h : s / 2 ^ k % 2 = 1) (h2 : ¬ fnx (B (s - 2 ^ k)) (T k) < fbM B T s k) : fbM B T s (k + 1) = fbM B T s k := by
  show (if s / 2 ^ k % 2 = 1 then (if fnx (B (s - 2 ^ k)) (T k) < fbM B T s k then fnx (B (s - 2 ^ k)) (T k) else fbM B T s k) else fbM B T s k) = _
  rw [if_pos h, if_neg h2]
theorem fbM_f {B T : Nat → Int} {s k : Nat} (h : ¬ s / 2 ^ k % 2 = 1) : fbM B T s (k + 1) = fbM B T s k := if_neg h
theorem bit_le {s k : Nat} (h : s / 2 ^ k % 2 = 1) : 2 ^ k ≤ s := by
  rcases Nat.lt_or_ge s (2 ^ k) with h1 | h1
  · rw [Nat.div_eq_of_lt h1] at h
    omega
  · exact h1
theorem fbM_bd {B T : Nat → Int} {s : Nat} (hB : ∀ q, q < s → 0 ≤ B q) (hT : ∀ k, 0 ≤ T k) : ∀ k, 0 ≤ fbM B T s k ∧ fbM B T s k ≤ 1024 := by
  intro k
  induction k with
  | zero => exact ⟨show (0 : Int) ≤ 1024 by decide, show (1024 : Int) ≤ 1024 by decide⟩
  | succ k ih =>
    by_cases h : s / 2 ^ k % 2 = 1
    · by_cases h2 : fnx (B (s - 2 ^ k)) (T k) < fbM B T s k
      · rw [fbM_t h h2]
        have h3 := bit_le h
        have hp : 0 < 2 ^ k := Nat.two_pow_pos k
        have h4 := hB (s - 2 ^ k) (by omega)
        have h5 := hT k
        refine ⟨?_, by omega⟩
        unfold fnx
        split <;> omega
      · rw [fbM_e h h2]; exact ih
    · rw [fbM_f h]; exact ih
theorem fbN_bd {B T : Nat → Int} {n : Nat} (hT : ∀ k, 0 ≤ T k) : ∀ s q, q ≤ s → 0 ≤ fbN B T n s q ∧ fbN B T n s q ≤ 1024 := by
  intro s
  induction s with
  | zero =>
    intro q hq
    have e : q = 0 := by omega
    subst e
    show 0 ≤ rs B 0 16 0 ∧ rs B 0 16 0 ≤ 1024
    rw [rs_eq]
    decide
  | succ s ih =>
    intro q hq
    show 0 ≤ rs (fbN B T n s) (s + 1) _ q ∧ rs (fbN B T n s) (s + 1) _ q ≤ 1024
    by_cases e : q = s + 1
    · subst e
      rw [rs_eq]
      exact fbM_bd (fun q hq => (ih q (by omega)).1) hT n
    · rw [rs_ne e]
      exact ih q (by omega)
def tlT (R : Nat → Int) (k : Nat) : Int := ro R ((srL R 150).getD k 0) 1 % 16
def fbF (R B : Nat → Int) : Int := fbN B (tlT R) (srL R 150).length (2 ^ (srL R 150).length - 1) (2 ^ (srL R 150).length - 1) / 32
theorem tlT_bd (R : Nat → Int) (k : Nat) : 0 ≤ tlT R k ∧ tlT R k < 16 := by
  unfold tlT
  omega
theorem pow_le {n : Nat} (h : n ≤ 10) : 1 ≤ 2 ^ n ∧ 2 ^ n ≤ 1024 := ⟨Nat.one_le_two_pow, Nat.le_trans (Nat.pow_le_pow_right (by decide : 2 > 0) h) (by decide)⟩
theorem getD_lt {l : List Nat} (h : ∀ f ∈ l, f < 10) (k : Nat) : l.getD k 0 < 10 := by
  rw [List.getD_eq_getElem?_getD]
  cases hk : l[k]? with
  | none => show 0 < 10; omega
  | some x => exact h x (List.mem_of_getElem? hk)
