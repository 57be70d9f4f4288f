theorem bit_tb {s k : Nat} : s / 2 ^ k % 2 = 1 ↔ s.testBit k = true := by
  rw [Nat.testBit_eq_decide_div_mod_eq, decide_eq_true_eq]
theorem bit_sub {s k : Nat} (h : s.testBit k = true) (j : Nat) : (s - 2 ^ k).testBit j = if j = k then false else s.testBit j := by
  have hp : 0 < 2 ^ k := Nat.two_pow_pos k
  have hp1 : 2 ^ (k + 1) = 2 ^ k + 2 ^ k := by rw [Nat.pow_succ]; omega
  have e0 := Nat.div_add_mod s (2 ^ (k + 1))
  obtain ⟨u, hu⟩ : ∃ u, u = s / 2 ^ (k + 1) := ⟨_, rfl⟩
  obtain ⟨v, hv⟩ : ∃ v, v = s % 2 ^ (k + 1) := ⟨_, rfl⟩
  rw [← hu, ← hv] at e0
  have hvl : v < 2 ^ (k + 1) := by rw [hv]; exact Nat.mod_lt _ (Nat.two_pow_pos _)
  have hvb : v.testBit k = true := by
    have h1 := Nat.testBit_two_pow_mul_add u hvl k
    rw [e0, h, if_pos (Nat.lt_succ_self k)] at h1
    exact h1.symm
  have hvge : 2 ^ k ≤ v := Nat.not_lt.mp fun q => by rw [Nat.testBit_lt_two_pow q] at hvb; cases hvb
  obtain ⟨w, hw⟩ : ∃ w, v = 2 ^ k * 1 + w := ⟨v - 2 ^ k, by omega⟩
  have hwl : w < 2 ^ k := by omega
  have hr : s - 2 ^ k = 2 ^ (k + 1) * u + w := by omega
  rw [hr, ← e0, Nat.testBit_two_pow_mul_add u (show w < 2 ^ (k + 1) by omega), Nat.testBit_two_pow_mul_add u hvl, hw, Nat.testBit_two_pow_mul_add 1 hwl]
  by_cases e : j = k
  · subst e
    rw [if_pos (Nat.lt_succ_self j), if_pos rfl]
    exact Nat.testBit_lt_two_pow hwl
  · rw [if_neg e]
    by_cases q : j < k
    · rw [if_pos (by omega), if_pos (by omega), if_pos q]
    · rw [if_neg (by omega), if_neg (by omega)]
section DP
variable {T : Nat → Int} {n : Nat}
/-- a set's number in the table -/
def fbV (T : Nat → Int) (n q : Nat) : Int := fbN (fun _ => 0) T n q q
theorem fbN_V : ∀ s q, q ≤ s → fbN (fun _ => 0) T n s q = fbV T n q := by
  intro s
  induction s with
  | zero => intro q h; have e : q = 0 := by omega
            subst e; rfl
  | succ s ih =>
    intro q h
    by_cases e : q = s + 1
    · subst e; rfl
    · show rs (fbN (fun _ => 0) T n s) (s + 1) _ q = _
      rw [rs_ne e]
      exact ih q (by omega)
theorem fbV_0 : fbV T n 0 = 16 := by
  show rs (fun _ => (0 : Int)) 0 16 0 = 16
  exact rs_eq _ _ _
theorem fbV_s {s : Nat} (hs : 0 < s) : fbV T n s = fbM (fbV T n) T s n := by
  obtain ⟨q, rfl⟩ : ∃ q, s = q + 1 := ⟨s - 1, by omega⟩
  show rs (fbN (fun _ => 0) T n q) (q + 1) (fbM (fbN (fun _ => 0) T n q) T (q + 1) n) (q + 1) = _
  rw [rs_eq]
  exact fbM_congr (fun q2 hq => fbN_V q q2 (by omega)) n
theorem fbG_V (R : Nat → Int) : fbG R = fbV (tlT R) (srL R 150).length (2 ^ (srL R 150).length - 1) / 32 := rfl
theorem fbM_le {V : Nat → Int} {s k : Nat} (hb : s.testBit k = true) : ∀ m, k < m → fbM V T s m ≤ fnx (V (s - 2 ^ k)) (T k) := by
  intro m
  induction m with
  | zero => intro h; omega
  | succ m ih =>
    intro h
    by_cases e : k = m
    · subst e
      by_cases h2 : fnx (V (s - 2 ^ k)) (T k) < fbM V T s k
      · rw [fbM_t (bit_tb.mpr hb) h2]; exact Int.le_refl _
      · rw [fbM_e (bit_tb.mpr hb) h2]; omega
    · have h3 := ih (by omega)
      by_cases hm : s / 2 ^ m % 2 = 1
      · by_cases h2 : fnx (V (s - 2 ^ m)) (T m) < fbM V T s m
        · rw [fbM_t hm h2]; omega
        · rw [fbM_e hm h2]; exact h3
      · rw [fbM_f hm]; exact h3
theorem fbM_or {V : Nat → Int} {s : Nat} : ∀ m, fbM V T s m = 1024 ∨ ∃ k, k < m ∧ s.testBit k = true ∧ fbM V T s m = fnx (V (s - 2 ^ k)) (T k) := by
  intro m
  induction m with
  | zero => exact Or.inl rfl
  | succ m ih =>
    have ih' : fbM V T s m = 1024 ∨ ∃ k, k < m + 1 ∧ s.testBit k = true ∧ fbM V T s m = fnx (V (s - 2 ^ k)) (T k) := by
      rcases ih with h | ⟨k, h1, h2, h3⟩
      · exact Or.inl h
      · exact Or.inr ⟨k, by omega, h2, h3⟩
    by_cases hm : s / 2 ^ m % 2 = 1
    · by_cases h2 : fnx (V (s - 2 ^ m)) (T m) < fbM V T s m
      · rw [fbM_t hm h2]; exact Or.inr ⟨m, by omega, bit_tb.mp hm, rfl⟩
      · rw [fbM_e hm h2]; exact ih'
    · rw [fbM_f hm]; exact ih'
theorem fnx_le {x t : Int} {m : Nat} (hx : x ≤ 32 * (m : Int) + 16) (ht : t ≤ 15) : fnx x t ≤ 32 * ((m + 1 : Nat) : Int) + 16 := by
  unfold fnx
  split <;> omega
theorem two_bit {s m : Nat} (h1 : 2 ^ m ≤ s) (h2 : s < 2 ^ (m + 1)) : s.testBit m = true := by
  have hp : 0 < 2 ^ m := Nat.two_pow_pos m
  have h3 : 2 ^ (m + 1) = 2 ^ m + 2 ^ m := by rw [Nat.pow_succ]; omega
  have h4 : s = 2 ^ m * 1 + (s - 2 ^ m) := by omega
  rw [h4, Nat.testBit_two_pow_mul_add 1 (show s - 2 ^ m < 2 ^ m by omega), if_neg (Nat.lt_irrefl m), Nat.sub_self]
  rfl
/-- the sets with the first tails need no more blocks than these -/
theorem fbV_up (hT0 : ∀ k, 0 ≤ T k ∧ T k ≤ 15) : ∀ m, m ≤ n → ∀ s, s < 2 ^ m → fbV T n s ≤ 32 * (m : Int) + 16 := by
  intro m
  induction m with
  | zero =>
    intro _ s hs
    have e : s = 0 := by simpa using hs
    subst e
    rw [fbV_0]
    decide
  | succ m ih =>
    intro hm s hs
    by_cases hlt : s < 2 ^ m
    · have := ih (by omega) s hlt
      omega
    · have hp : 0 < 2 ^ m := Nat.two_pow_pos m
      have h3 : 2 ^ (m + 1) = 2 ^ m + 2 ^ m := by rw [Nat.pow_succ]; omega
      have hb := two_bit (Nat.not_lt.mp hlt) hs
      rw [fbV_s (by omega)]
      have h1 := fbM_le (T := T) (V := fbV T n) hb n (by omega)
      have h2 := fnx_le (ih (by omega) (s - 2 ^ m) (by omega)) (hT0 m).2
      omega
theorem fbV_bd (hT0 : ∀ k, 0 ≤ T k ∧ T k ≤ 15) (hn : n ≤ 10) {s : Nat} (hs : s < 2 ^ n) : 0 ≤ fbV T n s ∧ fbV T n s ≤ 336 ∧ fbV T n s % 32 ≤ 16 := by
  have hpos : ∀ q, 0 ≤ fbV T n q := fun q => (fbN_bd (B := fun _ => 0) (fun k => (hT0 k).1) q q (Nat.le_refl q)).1
  have h1 := fbV_up hT0 n (Nat.le_refl n) s hs
  refine ⟨hpos s, by omega, ?_⟩
  by_cases h0 : s = 0
  · subst h0
    rw [fbV_0]
    decide
  · have h2 := fbV_s (T := T) (n := n) (s := s) (by omega)
    rcases fbM_or (T := T) (V := fbV T n) (s := s) n with q | ⟨k, q1, q2, q3⟩
    · omega
    · have h3 := hpos (s - 2 ^ k)
      have h4 := hT0 k
      rw [h2, q3]
      unfold fnx
      split <;> omega
-- the class's two rows hold the same number
theorem soP_V {SB SL Lg : Nat → Int} {s : Nat} (hT0 : ∀ k, 0 ≤ T k ∧ T k ≤ 15) (hn : n ≤ 10) (hs : s < 2 ^ n) (hL : ∀ k, k < n → Lg k = T k) (hV : ∀ q, q < s → 32 * SB q + SL q = fbV T n q ∧ 0 ≤ SB q ∧ 0 ≤ SL q ∧ SL q ≤ 16) :
    ∀ k, k ≤ 10 → (32 * (soP SB SL Lg s k).1 + (soP SB SL Lg s k).2 = (if fbM (fbV T n) T s (min k n) < 368 then fbM (fbV T n) T s (min k n) else 368)) ∧ 0 ≤ (soP SB SL Lg s k).1 ∧ 0 ≤ (soP SB SL Lg s k).2 ∧ (soP SB SL Lg s k).2 ≤ 16 := by
  intro k
  induction k with
  | zero => intro _; exact ⟨by rw [Nat.zero_min]; show 32 * (11 : Int) + 16 = if (1024 : Int) < 368 then 1024 else 368; decide, show (0 : Int) ≤ 11 by decide, show (0 : Int) ≤ 16 by decide, show (16 : Int) ≤ 16 by decide⟩
  | succ k ih =>
    intro hk
    obtain ⟨i1, i2, i3, i4⟩ := ih (by omega)
    by_cases hb : s / 2 ^ k % 2 = 1
    · have hbt := bit_tb.mp hb
      have hkn : k < n := bit_lt hs hb
      have hle := bit_le hb
      have hp : 0 < 2 ^ k := Nat.two_pow_pos k
      obtain ⟨v1, v2, v3, v4⟩ := hV (s - 2 ^ k) (by omega)
      have hc : 32 * soB SB SL Lg (s - 2 ^ k) k + soL SL Lg (s - 2 ^ k) k = fnx (fbV T n (s - 2 ^ k)) (T k) := by
        rw [← v1]
        have ht := hT0 k
        unfold soB soL fnx
        rw [hL k hkn]
        have e1 : (32 * SB (s - 2 ^ k) + SL (s - 2 ^ k)) % 32 = SL (s - 2 ^ k) := by omega
        have e2 : (32 * SB (s - 2 ^ k) + SL (s - 2 ^ k)) / 32 = SB (s - 2 ^ k) := by omega
        rw [e1, e2]
        split <;> omega
      have hsl : 0 ≤ soL SL Lg (s - 2 ^ k) k ∧ soL SL Lg (s - 2 ^ k) k ≤ 16 := by
        have ht := hT0 k
        unfold soL
        rw [hL k hkn]
        split <;> omega
      have hsb : 0 ≤ soB SB SL Lg (s - 2 ^ k) k := by
        unfold soB
        split <;> omega
      rw [show min (k + 1) n = k + 1 by omega]
      rw [show min k n = k by omega] at i1
      by_cases hw : soB SB SL Lg (s - 2 ^ k) k < (soP SB SL Lg s k).1 ∨ (soB SB SL Lg (s - 2 ^ k) k = (soP SB SL Lg s k).1 ∧ soL SL Lg (s - 2 ^ k) k < (soP SB SL Lg s k).2)
      · rw [soP_w hb hw]
        refine ⟨?_, hsb, hsl.1, hsl.2⟩
        show 32 * soB SB SL Lg (s - 2 ^ k) k + soL SL Lg (s - 2 ^ k) k = _
        rw [hc]
        have hlt : fnx (fbV T n (s - 2 ^ k)) (T k) < 32 * (soP SB SL Lg s k).1 + (soP SB SL Lg s k).2 := by omega
        rw [i1] at hlt
        have h2 : fnx (fbV T n (s - 2 ^ k)) (T k) < fbM (fbV T n) T s k ∧ fnx (fbV T n (s - 2 ^ k)) (T k) < 368 := by
          split at hlt <;> omega
        rw [fbM_t hb h2.1, if_pos h2.2]
      · rw [soP_k hb hw]
        refine ⟨?_, i2, i3, i4⟩
        have hge : 32 * (soP SB SL Lg s k).1 + (soP SB SL Lg s k).2 ≤ fnx (fbV T n (s - 2 ^ k)) (T k) := by omega
        rw [i1] at hge ⊢
        by_cases h2 : fnx (fbV T n (s - 2 ^ k)) (T k) < fbM (fbV T n) T s k
        · rw [fbM_t hb h2]
          split at hge
          · omega
          · rename_i h3
            rw [if_neg h3, if_neg (by omega)]
        · rw [fbM_e hb h2]
    · rw [soP_n hb]
      by_cases hkn : k < n
      · rw [show min (k + 1) n = k + 1 by omega, fbM_f hb]
        rw [show min k n = k by omega] at i1
        exact ⟨i1, i2, i3, i4⟩
      · rw [show min (k + 1) n = n by omega]
        rw [show min k n = n by omega] at i1
        exact ⟨i1, i2, i3, i4⟩
theorem bsI_V {SB SL Lg : Nat → Int} (hT0 : ∀ k, 0 ≤ T k ∧ T k ≤ 15) (hn : n ≤ 10) (hL : ∀ k, k < n → Lg k = T k) : ∀ s, s < 2 ^ n → ∀ q, q ≤ s → 32 * (bsI Lg SB SL s).1 q + (bsI Lg SB SL s).2 q = fbV T n q ∧ 0 ≤ (bsI Lg SB SL s).1 q ∧ 0 ≤ (bsI Lg SB SL s).2 q ∧ (bsI Lg SB SL s).2 q ≤ 16 := by
  intro s
  induction s with
  | zero =>
    intro _ q hq
    have e : q = 0 := by omega
    subst e
    show 32 * rs SB 0 0 0 + rs SL 0 16 0 = _ ∧ 0 ≤ rs SB 0 0 0 ∧ 0 ≤ rs SL 0 16 0 ∧ rs SL 0 16 0 ≤ 16
    rw [rs_eq, rs_eq, fbV_0]
    decide
  | succ s ih =>
    intro hs q hq
    have h1 := ih (by omega)
    show 32 * rs (bsI Lg SB SL s).1 (s + 1) _ q + rs (bsI Lg SB SL s).2 (s + 1) _ q = _ ∧ 0 ≤ rs (bsI Lg SB SL s).1 (s + 1) _ q ∧ 0 ≤ rs (bsI Lg SB SL s).2 (s + 1) _ q ∧ rs (bsI Lg SB SL s).2 (s + 1) _ q ≤ 16
    by_cases e : q = s + 1
    · subst e
      rw [rs_eq, rs_eq]
      obtain ⟨k1, k2⟩ := soP_V (SB := (bsI Lg SB SL s).1) (SL := (bsI Lg SB SL s).2) hT0 hn hs hL (fun q hq => h1 q (by omega)) 10 (Nat.le_refl _)
      rw [show min 10 n = n by omega, ← fbV_s (s := s + 1) (by omega)] at k1
      have hb := fbV_bd hT0 hn hs
      rw [if_pos (by omega)] at k1
      exact ⟨k1, k2⟩
    · rw [rs_ne e, rs_ne e]
      exact h1 q (by omega)
-- what the least is
/-- the load of a block: the tails of a set that are assigned to it -/
def ldS (T : Nat → Int) (p : Nat → Bool) (c : Nat → Nat) (b n : Nat) : Int := sumN (fun k => if p k = true ∧ c k = b then T k else 0) n
theorem ldS_bd (hT0 : ∀ k, 0 ≤ T k ∧ T k ≤ 15) (p : Nat → Bool) (c : Nat → Nat) (b n : Nat) : 0 ≤ ldS T p c b n :=
  (sumN_bd (a := 15) (by decide) n (fun i _ => by
    have := hT0 i
    show 0 ≤ (if _ then _ else (0 : Int)) ∧ (if _ then _ else (0 : Int)) ≤ 15
    split <;> omega)).1
theorem ldS_congr {p p2 : Nat → Bool} {c c2 : Nat → Nat} {b b2 : Nat} (h : ∀ k, k < n → ((p k = true ∧ c k = b) ↔ (p2 k = true ∧ c2 k = b2))) : ldS T p c b n = ldS T p2 c2 b2 n := sumN_congr n (fun k hk => by
  show (if _ then _ else (0 : Int)) = (if _ then _ else 0)
  by_cases q : p k = true ∧ c k = b
  · rw [if_pos q, if_pos ((h k hk).mp q)]
  · rw [if_neg q, if_neg (fun q2 => q ((h k hk).mpr q2))])
/-- one tail less -/
theorem ldS_less {p p2 : Nat → Bool} {c c2 : Nat → Nat} {b b2 k0 : Nat} (hk : k0 < n) (h0 : p k0 = true ∧ c k0 = b) (h1 : ¬ (p2 k0 = true ∧ c2 k0 = b2)) (h : ∀ k, k ≠ k0 → k < n → ((p k = true ∧ c k = b) ↔ (p2 k = true ∧ c2 k = b2))) : ldS T p c b n = ldS T p2 c2 b2 n + T k0 := by
  have h2 := sumN_one (g := fun k => if k < n then (if p2 k = true ∧ c2 k = b2 then T k else 0) else 0) (g2 := fun k => if k < n then (if p k = true ∧ c k = b then T k else 0) else 0) (b0 := k0) (x := T k0) (fun k hne => by
    show (if k < n then (if _ then _ else (0 : Int)) else 0) = (if k < n then (if _ then _ else 0) else 0)
    by_cases q0 : k < n
    · rw [if_pos q0, if_pos q0]
      by_cases q : p k = true ∧ c k = b
      · rw [if_pos q, if_pos ((h k hne q0).mp q)]
      · rw [if_neg q, if_neg (fun q2 => q ((h k hne q0).mpr q2))]
    · rw [if_neg q0, if_neg q0]) (by
    show (if k0 < n then (if _ then _ else (0 : Int)) else 0) = (if k0 < n then (if _ then _ else 0) else 0) + T k0
    rw [if_pos hk, if_pos hk, if_pos h0, if_neg h1, Int.zero_add]) n
  rw [if_pos hk] at h2
  have e1 : ldS T p c b n = sumN (fun k => if k < n then (if p k = true ∧ c k = b then T k else 0) else 0) n := sumN_congr n (fun k hk => (if_pos hk).symm)
  have e2 : ldS T p2 c2 b2 n = sumN (fun k => if k < n then (if p2 k = true ∧ c2 k = b2 then T k else 0) else 0) n := sumN_congr n (fun k hk => (if_pos hk).symm)
  rw [e1, e2, h2]
theorem ldS_0 {p : Nat → Bool} {c : Nat → Nat} {b : Nat} (h : ∀ k, k < n → ¬ (p k = true ∧ c k = b)) : ldS T p c b n = 0 := by
  have e : ldS T p c b n = sumN (fun _ => 0) n := sumN_congr n (fun k hk => if_neg (h k hk))
  rw [e]
  have : ∀ m, sumN (fun _ => (0 : Int)) m = 0 := by
    intro m
    induction m with
    | zero => rfl
    | succ m ih => show sumN _ m + 0 = 0; rw [ih]; rfl
  exact this n
theorem ldS_ge (hT0 : ∀ k, 0 ≤ T k ∧ T k ≤ 15) {p : Nat → Bool} {c : Nat → Nat} {b k0 : Nat} (hk : k0 < n) (h0 : p k0 = true ∧ c k0 = b) : T k0 ≤ ldS T p c b n := by
  have h1 := ldS_less (T := T) (n := n) (p := p) (c := c) (b := b) (p2 := fun k => p k && decide (k ≠ k0)) (c2 := c) (b2 := b) hk h0 (fun q => by
    have := Bool.and_eq_true_iff.mp q.1
    exact absurd rfl (of_decide_eq_true this.2)) (fun k hne _ => by
    rw [Bool.and_eq_true, decide_eq_true_eq]
    exact ⟨fun q => ⟨⟨q.1, hne⟩, q.2⟩, fun q => ⟨q.1.1, q.2⟩⟩)
  have h2 := ldS_bd hT0 (fun k => p k && decide (k ≠ k0)) c b n
  omega
/-- no packing is better than the table -/
theorem fbV_low (hT0 : ∀ k, 0 ≤ T k ∧ T k ≤ 15) (hn : n ≤ 10) : ∀ N s, s < N → s < 2 ^ n → ∀ (m : Nat) (c : Nat → Nat), (∀ k, k < n → s.testBit k = true → c k < m) → (∀ b, b < m → ldS T s.testBit c b n ≤ 16) → ∀ j, j < m → fbV T n s ≤ 32 * (m : Int) + ldS T s.testBit c j n := by
  intro N
  induction N with
  | zero => intro s h; omega
  | succ N ih =>
    intro s hsN hs m c hc hl
    have hne : ∀ (m : Nat) (c : Nat → Nat), (∀ k, k < n → s.testBit k = true → c k < m) → (∀ b, b < m → ldS T s.testBit c b n ≤ 16) → ∀ j, j < m → ∀ k, k < n → s.testBit k = true → c k = j → fbV T n s ≤ 32 * (m : Int) + ldS T s.testBit c j n := by
      intro m c hc hl j hj k hk hb hck
      have hle := bit_le (bit_tb.mpr hb)
      have hp : 0 < 2 ^ k := Nat.two_pow_pos k
      have hbs := bit_sub hb
      have hless : ldS T s.testBit c j n = ldS T (s - 2 ^ k).testBit c j n + T k := ldS_less hk ⟨hb, hck⟩ (fun q => by
        rw [hbs, if_pos rfl] at q
        cases q.1) (fun k2 hne _ => by rw [hbs, if_neg hne])
      have hoth : ∀ b, b < m → ldS T (s - 2 ^ k).testBit c b n ≤ ldS T s.testBit c b n := fun b _ => by
        by_cases e : b = j
        · subst e
          have := hT0 k
          omega
        · rw [ldS_congr (T := T) (p := s.testBit) (p2 := (s - 2 ^ k).testBit) (c := c) (c2 := c) (b := b) (b2 := b) (fun k2 _ => by
            rw [hbs]
            by_cases e2 : k2 = k
            · subst e2
              rw [if_pos rfl]
              exact ⟨fun q => absurd (hck.symm.trans q.2).symm e, fun q => by cases q.1⟩
            · rw [if_neg e2])]
          exact Int.le_refl _
      have hr := ih (s - 2 ^ k) (by omega) (by omega) m c (fun k2 hk2 hb2 => by
        rw [hbs] at hb2
        split at hb2
        · cases hb2
        · exact hc k2 hk2 hb2) (fun b hb2 => Int.le_trans (hoth b hb2) (hl b hb2)) j hj
      have hlj := hl j hj
      have h0 := ldS_bd hT0 (s - 2 ^ k).testBit c j n
      have ht := hT0 k
      have hbr := fbV_bd hT0 hn (s := s - 2 ^ k) (by omega)
      have h1 := fbM_le (T := T) (V := fbV T n) hb n hk
      rw [fbV_s (by omega)]
      refine Int.le_trans h1 ?_
      unfold fnx
      split <;> omega
    intro j hj
    by_cases h0 : s = 0
    · subst h0
      rw [fbV_0]
      have := ldS_bd hT0 (0 : Nat).testBit c j n
      omega
    · by_cases hex : ∃ k, k < n ∧ s.testBit k = true ∧ c k = j
      · obtain ⟨k, k1, k2, k3⟩ := hex
        exact hne m c hc hl j hj k k1 k2 k3
      · have hno : ∀ k, k < n → s.testBit k = true → c k ≠ j := fun k k1 k2 k3 => hex ⟨k, k1, k2, k3⟩
        obtain ⟨k, hk, hb⟩ : ∃ k, k < n ∧ s.testBit k = true := by
          refine Decidable.byContradiction fun q => h0 ?_
          refine Nat.eq_of_testBit_eq (fun i => ?_)
          rw [Nat.zero_testBit]
          cases hh : s.testBit i with
          | false => rfl
          | true => exact absurd ⟨i, bit_lt hs (bit_tb.mpr hh), hh⟩ q
        obtain ⟨c2, hc2⟩ : ∃ c2 : Nat → Nat, c2 = fun k => if c k = m - 1 then j else c k := ⟨_, rfl⟩
        have hv : ∀ k, k < n → s.testBit k = true → c2 k < m - 1 := fun k k1 k2 => by
          rw [hc2]
          show (if c k = m - 1 then j else c k) < m - 1
          have a1 := hc k k1 k2
          have a2 := hno k k1 k2
          split
          · omega
          · omega
        have hl2 : ∀ b, b < m - 1 → ldS T s.testBit c2 b n ≤ 16 := fun b hb2 => by
          by_cases e : b = j
          · subst e
            rw [ldS_congr (T := T) (p := s.testBit) (p2 := s.testBit) (c := c2) (c2 := c) (b := b) (b2 := m - 1) (fun k k1 => by
              rw [hc2]
              show (_ ∧ (if c k = m - 1 then b else c k) = b) ↔ _
              constructor
              · rintro ⟨q1, q2⟩
                refine ⟨q1, ?_⟩
                split at q2
                · assumption
                · exact absurd q2 (hno k k1 q1)
              · rintro ⟨q1, q2⟩
                exact ⟨q1, if_pos q2⟩)]
            exact hl (m - 1) (by omega)
          · rw [ldS_congr (T := T) (p := s.testBit) (p2 := s.testBit) (c := c2) (c2 := c) (b := b) (b2 := b) (fun k k1 => by
              rw [hc2]
              show (_ ∧ (if c k = m - 1 then j else c k) = b) ↔ _
              constructor
              · rintro ⟨q1, q2⟩
                refine ⟨q1, ?_⟩
                split at q2
                · exact absurd q2.symm e
                · exact q2
              · rintro ⟨q1, q2⟩
                exact ⟨q1, by rw [if_neg (by omega)]; exact q2⟩)]
            exact hl b (by omega)
        have hk1 := hv k hk hb
        have h5 := hne (m - 1) c2 hv hl2 (c2 k) hk1 k hk hb rfl
        have h6 := hl2 (c2 k) hk1
        have h7 := ldS_bd hT0 s.testBit c j n
        omega
/-- the table is a packing -/
theorem fbV_ach (hT0 : ∀ k, 0 ≤ T k ∧ T k ≤ 15) (hT1 : ∀ k, k < n → 1 ≤ T k) (hn : n ≤ 10) : ∀ N s, s < N → s < 2 ^ n → ∃ c : Nat → Nat, (∀ k, k < n → s.testBit k = true → ((c k : Nat) : Int) < fbV T n s / 32) ∧ (∀ b, ldS T s.testBit c b n ≤ 16) ∧ (0 < s → 1 ≤ fbV T n s / 32 ∧ ldS T s.testBit c (fbV T n s / 32 - 1).toNat n = fbV T n s % 32) := by
  intro N
  induction N with
  | zero => intro s h; omega
  | succ N ih =>
    intro s hsN hs
    by_cases h0 : s = 0
    · subst h0
      refine ⟨fun _ => 0, fun k _ q => absurd ((Nat.zero_testBit k).symm.trans q) Bool.false_ne_true, fun b => ?_, fun q => absurd q (Nat.lt_irrefl 0)⟩
      rw [ldS_0 (fun k _ q => absurd ((Nat.zero_testBit k).symm.trans q.1) Bool.false_ne_true)]
      decide
    · have hbd := fbV_bd hT0 hn hs
      have hV := fbV_s (T := T) (n := n) (s := s) (by omega)
      rcases fbM_or (T := T) (V := fbV T n) (s := s) n with q | ⟨k, k1, k2, k3⟩
      · omega
      · have hle := bit_le (bit_tb.mpr k2)
        have hp : 0 < 2 ^ k := Nat.two_pow_pos k
        have hbs := bit_sub k2
        obtain ⟨c, c1, c2, c3⟩ := ih (s - 2 ^ k) (by omega) (by omega)
        have hbr := fbV_bd hT0 hn (s := s - 2 ^ k) (by omega)
        have ht := hT0 k
        have ht1 := hT1 k k1
        rw [← hV] at k3
        have hset : ∀ j : Nat, (∀ b, b ≠ j → ldS T s.testBit (fun x => if x = k then j else c x) b n = ldS T (s - 2 ^ k).testBit c b n) ∧ ldS T s.testBit (fun x => if x = k then j else c x) j n = ldS T (s - 2 ^ k).testBit c j n + T k := fun j => by
          refine ⟨fun b hb => ldS_congr (fun x _ => ?_), ldS_less k1 ⟨k2, if_pos rfl⟩ (fun q => by rw [hbs, if_pos rfl] at q; cases q.1) (fun x hne _ => ?_)⟩
          · show (_ ∧ (if x = k then j else c x) = b) ↔ _
            rw [hbs]
            by_cases e : x = k
            · rw [if_pos e, if_pos e]
              exact ⟨fun q => absurd q.2.symm hb, fun q => by cases q.1⟩
            · rw [if_neg e, if_neg e]
          · show (_ ∧ (if x = k then j else c x) = j) ↔ _
            rw [hbs, if_neg hne, if_neg hne]
        by_cases hfit : fbV T n (s - 2 ^ k) % 32 + T k ≤ 16
        · have e1 : fbV T n s = fbV T n (s - 2 ^ k) + T k := by rw [k3]; exact if_pos hfit
          have hr0 : 0 < s - 2 ^ k := by
            rcases Nat.eq_zero_or_pos (s - 2 ^ k) with q | q
            · rw [q, fbV_0] at hfit
              omega
            · exact q
          obtain ⟨d1, d2⟩ := c3 hr0
          obtain ⟨j, hj⟩ : ∃ j : Nat, j = (fbV T n (s - 2 ^ k) / 32 - 1).toNat := ⟨_, rfl⟩
          rw [← hj] at d2
          obtain ⟨g1, g2⟩ := hset j
          have e2 : fbV T n s / 32 = fbV T n (s - 2 ^ k) / 32 := by omega
          have e3 : fbV T n s % 32 = fbV T n (s - 2 ^ k) % 32 + T k := by omega
          refine ⟨fun x => if x = k then j else c x, fun x hx hb => ?_, fun b => ?_, fun _ => ⟨by omega, ?_⟩⟩
          · show ((if x = k then j else c x : Nat) : Int) < _
            by_cases e : x = k
            · rw [if_pos e]; omega
            · rw [if_neg e, e2]
              exact c1 x hx (by rw [hbs, if_neg e]; exact hb)
          · by_cases e : b = j
            · rw [e, g2, d2]; exact hfit
            · rw [g1 b e]; exact c2 b
          · rw [e2, ← hj, g2, d2, e3]
        · have e1 : fbV T n s = 32 * (fbV T n (s - 2 ^ k) / 32 + 1) + T k := by rw [k3]; exact if_neg hfit
          have e2 : fbV T n s / 32 = fbV T n (s - 2 ^ k) / 32 + 1 := by omega
          have e3 : fbV T n s % 32 = T k := by omega
          obtain ⟨j, hj⟩ : ∃ j : Nat, j = (fbV T n (s - 2 ^ k) / 32).toNat := ⟨_, rfl⟩
          obtain ⟨g1, g2⟩ := hset j
          have hz : ldS T (s - 2 ^ k).testBit c j n = 0 := ldS_0 (fun x hx q => by
            have := c1 x hx q.1
            have := q.2
            omega)
          refine ⟨fun x => if x = k then j else c x, fun x hx hb => ?_, fun b => ?_, fun _ => ⟨by omega, ?_⟩⟩
          · show ((if x = k then j else c x : Nat) : Int) < _
            by_cases e : x = k
            · rw [if_pos e]; omega
            · rw [if_neg e, e2]
              have := c1 x hx (by rw [hbs, if_neg e]; exact hb)
              omega
          · by_cases e : b = j
            · rw [e, g2, hz]; omega
            · rw [g1 b e]; exact c2 b
          · rw [e2, show (fbV T n (s - 2 ^ k) / 32 + 1 - 1).toNat = j by omega, g2, hz, e3, Int.zero_add]
end DP
