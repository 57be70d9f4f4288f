def foN (c : Nat → Bool) (g : Nat → Int → Int) (x : Int) : Nat → Int
  | 0 => x
  | b + 1 => if c b = true then g b (foN c g x b) else foN c g x b
/-- the best of what is known and of all ways to put the tails from a on -/
def ttF (Lg : Nat → Int) (n : Nat) (least : Int) : Nat → (Nat → Int) → Nat → Nat → Int → Int
  | 0, _, _, u, kn => if kn ≤ (u : Int) ∨ kn ≤ least then kn else (u : Int)
  | k + 1, Ld, a, u, kn => if kn ≤ (u : Int) ∨ kn ≤ least then kn else if n ≤ a then (u : Int) else
      foN (fun b => decide (Ld b + Lg a ≤ 16)) (fun b x => ttF Lg n least k (rs Ld b (Ld b + Lg a)) (a + 1) (if b = u then u + 1 else u) x) kn (min (u + 1) 10)
/-- .. after some blocks -/
def ttI (Lg : Nat → Int) (n : Nat) (least : Int) (k : Nat) (Ld : Nat → Int) (a u : Nat) (kn : Int) (i : Nat) : Int :=
  foN (fun b => decide (Ld b + Lg a ≤ 16)) (fun b x => ttF Lg n least k (rs Ld b (Ld b + Lg a)) (a + 1) (if b = u then u + 1 else u) x) kn i
theorem ttF_k {Lg : Nat → Int} {n : Nat} {least : Int} {k : Nat} {Ld : Nat → Int} {a u : Nat} {kn : Int} (h : kn ≤ (u : Int) ∨ kn ≤ least) : ttF Lg n least k Ld a u kn = kn := by
  cases k with
  | zero => exact if_pos h
  | succ k => exact if_pos h
theorem ttF_u {Lg : Nat → Int} {n : Nat} {least : Int} {k : Nat} {Ld : Nat → Int} {a u : Nat} {kn : Int} (h : ¬ (kn ≤ (u : Int) ∨ kn ≤ least)) (h2 : n ≤ a) : ttF Lg n least k Ld a u kn = (u : Int) := by
  cases k with
  | zero => exact if_neg h
  | succ k => exact (if_neg h).trans (if_pos h2)
theorem ttF_s {Lg : Nat → Int} {n : Nat} {least : Int} {k : Nat} {Ld : Nat → Int} {a u : Nat} {kn : Int} (h : ¬ (kn ≤ (u : Int) ∨ kn ≤ least)) (h2 : ¬ n ≤ a) : ttF Lg n least (k + 1) Ld a u kn = ttI Lg n least k Ld a u kn (min (u + 1) 10) := (if_neg h).trans (if_neg h2)
theorem ttI_t {Lg : Nat → Int} {n : Nat} {least : Int} {k : Nat} {Ld : Nat → Int} {a u : Nat} {kn : Int} {i : Nat} (h : Ld i + Lg a ≤ 16) : ttI Lg n least k Ld a u kn (i + 1) = ttF Lg n least k (rs Ld i (Ld i + Lg a)) (a + 1) (if i = u then u + 1 else u) (ttI Lg n least k Ld a u kn i) := if_pos (decide_eq_true h)
theorem ttI_f {Lg : Nat → Int} {n : Nat} {least : Int} {k : Nat} {Ld : Nat → Int} {a u : Nat} {kn : Int} {i : Nat} (h : ¬ Ld i + Lg a ≤ 16) : ttI Lg n least k Ld a u kn (i + 1) = ttI Lg n least k Ld a u kn i := if_neg (fun q => h (of_decide_eq_true q))
theorem ttF_le {Lg : Nat → Int} {n : Nat} {least : Int} : ∀ (k : Nat) (Ld : Nat → Int) (a u : Nat) (kn : Int), 0 ≤ kn → 0 ≤ ttF Lg n least k Ld a u kn ∧ ttF Lg n least k Ld a u kn ≤ kn := by
  intro k
  induction k with
  | zero =>
    intro Ld a u kn h0
    unfold ttF
    split <;> omega
  | succ k ih =>
    intro Ld a u kn h0
    by_cases h : kn ≤ (u : Int) ∨ kn ≤ least
    · rw [ttF_k h]; omega
    · by_cases h2 : n ≤ a
      · rw [ttF_u h h2]; omega
      · rw [ttF_s h h2]
        have hI : ∀ i, 0 ≤ ttI Lg n least k Ld a u kn i ∧ ttI Lg n least k Ld a u kn i ≤ kn := by
          intro i
          induction i with
          | zero => exact ⟨h0, Int.le_refl _⟩
          | succ i ih2 =>
            by_cases hc : Ld i + Lg a ≤ 16
            · rw [ttI_t hc]
              have := ih (rs Ld i (Ld i + Lg a)) (a + 1) (if i = u then u + 1 else u) _ ih2.1
              omega
            · rw [ttI_f hc]; exact ih2
        exact hI _
theorem ttI_le {Lg : Nat → Int} {n : Nat} {least : Int} {k : Nat} {Ld : Nat → Int} {a u : Nat} {kn : Int} (h0 : 0 ≤ kn) : ∀ i, 0 ≤ ttI Lg n least k Ld a u kn i ∧ ttI Lg n least k Ld a u kn i ≤ kn := by
  intro i
  induction i with
  | zero => exact ⟨h0, Int.le_refl _⟩
  | succ i ih2 =>
    by_cases hc : Ld i + Lg a ≤ 16
    · rw [ttI_t hc]
      have := ttF_le (Lg := Lg) (n := n) (least := least) k (rs Ld i (Ld i + Lg a)) (a + 1) (if i = u then u + 1 else u) _ ih2.1
      omega
    · rw [ttI_f hc]; exact ih2
theorem ttI_mono {Lg : Nat → Int} {n : Nat} {least : Int} {k : Nat} {Ld : Nat → Int} {a u : Nat} {kn : Int} (h0 : 0 ≤ kn) (i : Nat) : ∀ j, ttI Lg n least k Ld a u kn (i + j) ≤ ttI Lg n least k Ld a u kn i := by
  intro j
  induction j with
  | zero => exact Int.le_refl _
  | succ j ih =>
    have hb := ttI_le (Lg := Lg) (n := n) (least := least) (k := k) (Ld := Ld) (a := a) (u := u) h0 (i + j)
    show ttI Lg n least k Ld a u kn (i + j + 1) ≤ _
    by_cases hc : Ld (i + j) + Lg a ≤ 16
    · rw [ttI_t hc]
      have := ttF_le (Lg := Lg) (n := n) (least := least) k (rs Ld (i + j) (Ld (i + j) + Lg a)) (a + 1) (if i + j = u then u + 1 else u) _ hb.1
      omega
    · rw [ttI_f hc]; exact ih
theorem foN_congr {c c2 : Nat → Bool} {g g2 : Nat → Int → Int} {x : Int} (hc : ∀ b, c b = c2 b) (hg : ∀ b y, g b y = g2 b y) : ∀ n, foN c g x n = foN c2 g2 x n := by
  intro n
  induction n with
  | zero => rfl
  | succ n ih =>
    show (if c n = true then g n (foN c g x n) else foN c g x n) = (if c2 n = true then g2 n (foN c2 g2 x n) else foN c2 g2 x n)
    rw [ih, hc, hg]
theorem ttF_congr {Lg T : Nat → Int} {n : Nat} {least : Int} (h : ∀ q, q < n → Lg q = T q) : ∀ (k : Nat) (Ld : Nat → Int) (a u : Nat) (kn : Int), ttF Lg n least k Ld a u kn = ttF T n least k Ld a u kn := by
  intro k
  induction k with
  | zero => intro Ld a u kn; rfl
  | succ k ih =>
    intro Ld a u kn
    by_cases h1 : kn ≤ (u : Int) ∨ kn ≤ least
    · rw [ttF_k h1, ttF_k h1]
    · by_cases h2 : n ≤ a
      · rw [ttF_u h1 h2, ttF_u h1 h2]
      · rw [ttF_s h1 h2, ttF_s h1 h2]
        unfold ttI
        rw [h a (by omega)]
        exact foN_congr (fun _ => rfl) (fun b y => ih _ _ _ _) _
section TRY
variable {T : Nat → Int} {n : Nat} {least : Int}
def ge1 (a : Nat) : Nat → Bool := fun i => decide (a ≤ i)
/-- no way to put the tails is better, but the least known to be needed -/
theorem ttF_B (hT0 : ∀ k, 0 ≤ T k ∧ T k ≤ 15) : ∀ (k : Nat) (Ld : Nat → Int) (a u : Nat) (kn : Int), 0 ≤ kn → n ≤ a + k → ∀ (m : Nat) (c : Nat → Nat), u ≤ m → m ≤ 10 → (∀ i, a ≤ i → i < n → c i < m) → (∀ b, b < m → Ld b + ldS T (ge1 a) c b n ≤ 16) → (∀ b, u ≤ b → b < 10 → Ld b = 0) →
    ttF T n least k Ld a u kn ≤ (m : Int) ∨ ttF T n least k Ld a u kn ≤ least := by
  intro k
  induction k with
  | zero =>
    intro Ld a u kn _ hk m c hu _ _ _ _
    unfold ttF
    split <;> omega
  | succ k ih =>
    intro Ld a u kn h0 hk m c hu hm hc hl hz
    by_cases h : kn ≤ (u : Int) ∨ kn ≤ least
    · rw [ttF_k h]; omega
    · by_cases h2 : n ≤ a
      · rw [ttF_u h h2]; omega
      · rw [ttF_s h h2]
        have han : a < n := by omega
        -- a block at which this way goes on
        have hgo : ∀ (j : Nat) (c2 : Nat → Nat) (u2 : Nat), j < 10 → j ≤ u → u2 = (if j = u then u + 1 else u) → u2 ≤ m → Ld j + T a ≤ 16 → (∀ i, a + 1 ≤ i → i < n → c2 i < m) → (∀ b, b < m → rs Ld j (Ld j + T a) b + ldS T (ge1 (a + 1)) c2 b n ≤ 16) → ttI T n least k Ld a u kn (min (u + 1) 10) ≤ (m : Int) ∨ ttI T n least k Ld a u kn (min (u + 1) 10) ≤ least := by
          intro j c2 u2 hj hju hu2 hu2m hfit hc2 hl2
          have hI := ttI_le (Lg := T) (n := n) (least := least) (k := k) (Ld := Ld) (a := a) (u := u) h0 j
          have h5 := ih (rs Ld j (Ld j + T a)) (a + 1) u2 (ttI T n least k Ld a u kn j) hI.1 (by omega) m c2 hu2m hm hc2 hl2 (fun b hb1 hb2 => by
            have : b ≠ j := fun e => by
              subst e
              rw [hu2] at hb1
              split at hb1
              · omega
              · omega
            rw [rs_ne this]
            refine hz b ?_ hb2
            rw [hu2] at hb1
            split at hb1 <;> omega)
          have h6 : ttI T n least k Ld a u kn (j + 1) ≤ (m : Int) ∨ ttI T n least k Ld a u kn (j + 1) ≤ least := by
            rw [ttI_t hfit, ← hu2]
            exact h5
          have h7 := ttI_mono (Lg := T) (n := n) (least := least) (k := k) (Ld := Ld) (a := a) (u := u) h0 (j + 1) (min (u + 1) 10 - (j + 1))
          rw [show j + 1 + (min (u + 1) 10 - (j + 1)) = min (u + 1) 10 by omega] at h7
          omega
        have hca := hc a (Nat.le_refl a) han
        have hpa : ∀ (c2 : Nat → Nat), c2 a = c a → ∀ b, c a = b → ldS T (ge1 a) c2 b n = ldS T (ge1 (a + 1)) c2 b n + T a := fun c2 he b hb => ldS_less han ⟨decide_eq_true (Nat.le_refl a), by rw [he]; exact hb⟩ (fun q => by
          have := of_decide_eq_true q.1
          omega) (fun x hne _ => by
          unfold ge1
          rw [decide_eq_true_eq, decide_eq_true_eq]
          exact ⟨fun q => ⟨by omega, q.2⟩, fun q => ⟨by omega, q.2⟩⟩)
        have hpo : ∀ b, c a ≠ b → ldS T (ge1 a) c b n = ldS T (ge1 (a + 1)) c b n := fun b hb => ldS_congr (fun x _ => by
          unfold ge1
          rw [decide_eq_true_eq, decide_eq_true_eq]
          constructor
          · rintro ⟨q1, q2⟩
            refine ⟨?_, q2⟩
            by_cases e : x = a
            · subst e; exact absurd q2 hb
            · omega
          · exact fun q => ⟨by omega, q.2⟩)
        by_cases hju : c a < u
        · have h8 := hl (c a) hca
          rw [hpa c rfl (c a) rfl] at h8
          have h9 := ldS_bd hT0 (ge1 (a + 1)) c (c a) n
          refine hgo (c a) c u (by omega) (by omega) (by rw [if_neg (by omega)]) hu (by omega) (fun i h1 h2 => hc i (by omega) h2) (fun b hb => ?_)
          by_cases e : b = c a
          · rw [e, rs_eq]; omega
          · rw [rs_ne e]
            have := hl b hb
            rw [hpo b (fun q => e q.symm)] at this
            exact this
        · -- a block not used so far: as good as the next one
          have hum : u < m := by omega
          obtain ⟨j, hj⟩ : ∃ j, j = c a := ⟨_, rfl⟩
          obtain ⟨c2, hc2⟩ : ∃ c2 : Nat → Nat, c2 = fun i => if c i = j then u else if c i = u then j else c i := ⟨_, rfl⟩
          have hu0 := hz u (Nat.le_refl u) (by omega)
          have hj0 := hz j (by omega) (by omega)
          have hswap : ∀ b b2, (∀ i, c2 i = b ↔ c i = b2) → ldS T (ge1 (a + 1)) c2 b n = ldS T (ge1 (a + 1)) c b2 n := fun b b2 h => ldS_congr (fun x _ => by rw [h x])
          have hcu : ∀ i, c2 i = u ↔ c i = j := fun i => by
            rw [hc2]
            show (if c i = j then u else if c i = u then j else c i) = u ↔ _
            by_cases e : c i = j
            · rw [if_pos e]; exact ⟨fun _ => e, fun _ => rfl⟩
            · rw [if_neg e]
              by_cases e2 : c i = u
              · rw [if_pos e2]; omega
              · rw [if_neg e2]; omega
          have hcj : j ≠ u → ∀ i, c2 i = j ↔ c i = u := fun hju2 i => by
            rw [hc2]
            show (if c i = j then u else if c i = u then j else c i) = j ↔ _
            by_cases e : c i = j
            · rw [if_pos e]; omega
            · rw [if_neg e]
              by_cases e2 : c i = u
              · rw [if_pos e2]; omega
              · rw [if_neg e2]; omega
          have hco : ∀ b, b ≠ u → b ≠ j → ∀ i, c2 i = b ↔ c i = b := fun b h1 h2 i => by
            rw [hc2]
            show (if c i = j then u else if c i = u then j else c i) = b ↔ _
            by_cases e : c i = j
            · rw [if_pos e]; omega
            · rw [if_neg e]
              by_cases e2 : c i = u
              · rw [if_pos e2]; omega
              · rw [if_neg e2]
          have h8 := hl j (by omega)
          rw [hpa c rfl j hj.symm] at h8
          have h9 := ldS_bd hT0 (ge1 (a + 1)) c j n
          refine hgo u c2 (u + 1) (by omega) (Nat.le_refl u) (by rw [if_pos rfl]) (by omega) (by omega) (fun i h1 h2 => ?_) (fun b hb => ?_)
          · have := hc i (by omega) h2
            rw [hc2]
            show (if c i = j then u else if c i = u then j else c i) < m
            split
            · exact hum
            · split <;> omega
          · by_cases e : b = u
            · rw [e, rs_eq, hswap u j hcu]; omega
            · rw [rs_ne e]
              by_cases e2 : b = j
              · rw [e2, hswap j u (hcj (by omega))]
                have h10 := hl u hum
                rw [hpo u (by omega)] at h10
                omega
              · rw [hswap b b (hco b e e2)]
                have h10 := hl b hb
                rw [hpo b (by omega)] at h10
                exact h10
/-- a way to put the tails from a on into R blocks -/
def Ach (T : Nat → Int) (n : Nat) (Ld : Nat → Int) (a u : Nat) (R : Int) : Prop := ∃ c : Nat → Nat, (u : Int) ≤ R ∧ R ≤ 10 ∧ (∀ i, a ≤ i → i < n → ((c i : Nat) : Int) < R) ∧ ∀ b, b < 10 → Ld b + ldS T (ge1 a) c b n ≤ 16
theorem ttF_A : ∀ (k : Nat) (Ld : Nat → Int) (a u : Nat) (kn : Int), n ≤ a + k → u ≤ 10 → (∀ b, b < 10 → Ld b ≤ 16) → ttF T n least k Ld a u kn = kn ∨ Ach T n Ld a u (ttF T n least k Ld a u kn) := by
  have hend : ∀ (Ld : Nat → Int) (a u : Nat), n ≤ a → u ≤ 10 → (∀ b, b < 10 → Ld b ≤ 16) → Ach T n Ld a u (u : Int) := fun Ld a u h1 h2 h3 => ⟨fun _ => 0, Int.le_refl _, by omega, fun i h4 h5 => by omega, fun b hb => by
    rw [ldS_0 (fun k hk q => by
      have := of_decide_eq_true q.1
      omega)]
    have := h3 b hb
    omega⟩
  intro k
  induction k with
  | zero =>
    intro Ld a u kn hk hu hL
    by_cases h : kn ≤ (u : Int) ∨ kn ≤ least
    · exact Or.inl (ttF_k h)
    · rw [ttF_u h (by omega)]
      exact Or.inr (hend Ld a u (by omega) hu hL)
  | succ k ih =>
    intro Ld a u kn hk hu hL
    by_cases h : kn ≤ (u : Int) ∨ kn ≤ least
    · exact Or.inl (ttF_k h)
    · by_cases h2 : n ≤ a
      · rw [ttF_u h h2]
        exact Or.inr (hend Ld a u h2 hu hL)
      · rw [ttF_s h h2]
        have hI : ∀ i, i ≤ min (u + 1) 10 → ttI T n least k Ld a u kn i = kn ∨ Ach T n Ld a u (ttI T n least k Ld a u kn i) := by
          intro i
          induction i with
          | zero => intro _; exact Or.inl rfl
          | succ i ih2 =>
            intro hi
            by_cases hc : Ld i + T a ≤ 16
            · rw [ttI_t hc]
              obtain ⟨u2, hu2⟩ : ∃ u2, u2 = (if i = u then u + 1 else u) := ⟨_, rfl⟩
              have hu3 : (u2 = u + 1 ∧ i = u) ∨ (u2 = u ∧ i ≠ u) := by
                by_cases e : i = u
                · exact Or.inl ⟨by rw [hu2, if_pos e], e⟩
                · exact Or.inr ⟨by rw [hu2, if_neg e], e⟩
              rw [← hu2]
              rcases ih (rs Ld i (Ld i + T a)) (a + 1) u2 (ttI T n least k Ld a u kn i) (by omega) (by omega) (fun b hb => by
                by_cases e : b = i
                · subst e; rw [rs_eq]; exact hc
                · rw [rs_ne e]; exact hL b hb) with q | ⟨c, c1, c2, c3, c4⟩
              · rw [q]
                exact ih2 (by omega)
              · refine Or.inr ⟨fun x => if x = a then i else c x, ?_, c2, fun x h3 h4 => ?_, fun b hb => ?_⟩
                · omega
                · show ((if x = a then i else c x : Nat) : Int) < _
                  by_cases e : x = a
                  · rw [if_pos e]
                    omega
                  · rw [if_neg e]
                    exact c3 x (by omega) h4
                · have h5 := c4 b hb
                  by_cases e : b = i
                  · subst e
                    rw [rs_eq] at h5
                    have h6 : ldS T (ge1 a) (fun x => if x = a then b else c x) b n = ldS T (ge1 (a + 1)) c b n + T a := ldS_less (by omega) ⟨decide_eq_true (Nat.le_refl a), if_pos rfl⟩ (fun q => by
                      have := of_decide_eq_true q.1
                      omega) (fun x hne _ => by
                      unfold ge1
                      rw [decide_eq_true_eq, decide_eq_true_eq, if_neg hne]
                      exact ⟨fun q => ⟨by omega, q.2⟩, fun q => ⟨by omega, q.2⟩⟩)
                    rw [h6]
                    omega
                  · rw [rs_ne e] at h5
                    have h6 : ldS T (ge1 a) (fun x => if x = a then i else c x) b n = ldS T (ge1 (a + 1)) c b n := ldS_congr (fun x _ => by
                      unfold ge1
                      rw [decide_eq_true_eq, decide_eq_true_eq]
                      by_cases e2 : x = a
                      · rw [if_pos e2]
                        exact ⟨fun q => absurd q.2.symm e, fun q => by omega⟩
                      · rw [if_neg e2]
                        exact ⟨fun q => ⟨by omega, q.2⟩, fun q => ⟨by omega, q.2⟩⟩)
                    rw [h6]
                    exact h5
            · rw [ttI_f hc]
              exact ih2 (by omega)
        exact hI _ (Nat.le_refl _)
theorem all_tb {k : Nat} (h : k < n) : (2 ^ n - 1).testBit k = true := by
  rw [Nat.testBit_two_pow_sub_one]
  exact decide_eq_true h
theorem opt_le (hT0 : ∀ k, 0 ≤ T k ∧ T k ≤ 15) (hn : n ≤ 10) {m : Nat} {c : Nat → Nat} (hc : ∀ k, k < n → c k < m) (hl : ∀ b, b < m → ldS T (ge1 0) c b n ≤ 16) : fbV T n (2 ^ n - 1) / 32 ≤ (m : Int) := by
  have hp : 0 < 2 ^ n := Nat.two_pow_pos n
  by_cases h0 : n = 0
  · subst h0
    rw [show 2 ^ 0 - 1 = 0 from rfl, fbV_0]
    omega
  · have hm : 0 < m := Nat.lt_of_le_of_lt (Nat.zero_le _) (hc 0 (by omega))
    have he : ∀ b, ldS T (2 ^ n - 1).testBit c b n = ldS T (ge1 0) c b n := fun b => ldS_congr (fun k hk => by
      rw [all_tb hk]
      unfold ge1
      rw [decide_eq_true (Nat.zero_le k)])
    have h1 := fbV_low hT0 hn (2 ^ n) (2 ^ n - 1) (by omega) (by omega) m c (fun k hk _ => hc k hk) (fun b hb => by rw [he]; exact hl b hb) 0 hm
    rw [he] at h1
    have h2 := hl 0 hm
    omega
/-- the sum of all tails is the sum of the loads -/
theorem ldS_sum (hT0 : ∀ k, 0 ≤ T k ∧ T k ≤ 15) {c : Nat → Nat} {m : Nat} : ∀ n, (∀ k, k < n → c k < m) → sumN T n = sumN (fun b => ldS T (ge1 0) c b n) m := by
  intro n
  induction n with
  | zero =>
    intro _
    have h : ∀ m, sumN (fun b => ldS T (ge1 0) c b 0) m = 0 := by
      intro m
      induction m with
      | zero => rfl
      | succ m ih => show sumN _ m + 0 = 0; rw [ih]; rfl
    exact (h m).symm
  | succ n ih =>
    intro h
    have h1 := sumN_one (g := fun b => ldS T (ge1 0) c b n) (g2 := fun b => ldS T (ge1 0) c b (n + 1)) (b0 := c n) (x := T n) (fun b hb => by
      show ldS T (ge1 0) c b n + (if _ then _ else (0 : Int)) = _
      rw [if_neg (fun q => hb q.2.symm), Int.add_zero]) (by
      show ldS T (ge1 0) c (c n) n + (if _ then _ else (0 : Int)) = _
      rw [if_pos ⟨decide_eq_true (Nat.zero_le n), rfl⟩]) m
    rw [if_pos (h n (Nat.lt_succ_self n))] at h1
    show sumN T n + T n = _
    rw [h1, ih (fun k hk => h k (by omega))]
theorem try_eq (hT0 : ∀ k, 0 ≤ T k ∧ T k ≤ 15) (hT1 : ∀ k, k < n → 1 ≤ T k) (hn : n ≤ 10) {Ld : Nat → Int} (hLd : ∀ b, b < 10 → Ld b = 0) (hle : least = (sumN T n + 15) / 16) : ttF T n least 10 Ld 0 0 (n : Int) = fbV T n (2 ^ n - 1) / 32 := by
  have hp : 0 < 2 ^ n := Nat.two_pow_pos n
  -- as every tail may have a block of its own
  have hown : fbV T n (2 ^ n - 1) / 32 ≤ (n : Int) := opt_le hT0 hn (c := fun k => k) (fun k hk => hk) (fun b hb => by
    have h1 := ldS_less (T := T) (n := n) (p := ge1 0) (c := fun k => k) (b := b) (p2 := fun _ => false) (c2 := fun k => k) (b2 := b) hb ⟨decide_eq_true (Nat.zero_le b), rfl⟩ (fun q => by cases q.1) (fun k hne _ => ⟨fun q => absurd q.2 hne, fun q => by cases q.1⟩)
    rw [h1, ldS_0 (fun k _ q => by cases q.1)]
    have := hT0 b
    omega)
  have hlow : fbV T n (2 ^ n - 1) / 32 ≤ ttF T n least 10 Ld 0 0 (n : Int) := by
    rcases ttF_A (T := T) (n := n) (least := least) 10 Ld 0 0 (n : Int) (by omega) (by omega) (fun b hb => by rw [hLd b hb]; decide) with q | ⟨c, c1, c2, c3, c4⟩
    · rw [q]; exact hown
    · have h1 := opt_le (T := T) (n := n) hT0 hn (m := (ttF T n least 10 Ld 0 0 (n : Int)).toNat) (c := c) (fun k hk => by
        have := c3 k (Nat.zero_le k) hk
        omega) (fun b hb => by
        have := c4 b (by omega)
        rw [hLd b (by omega)] at this
        omega)
      omega
  obtain ⟨c, c1, c2, c3⟩ := fbV_ach hT0 hT1 hn (2 ^ n) (2 ^ n - 1) (by omega) (by omega)
  have hbd := fbV_bd hT0 hn (s := 2 ^ n - 1) (by omega)
  obtain ⟨m, hm⟩ : ∃ m : Nat, fbV T n (2 ^ n - 1) / 32 = (m : Int) := ⟨(fbV T n (2 ^ n - 1) / 32).toNat, by omega⟩
  have he : ∀ b, ldS T (2 ^ n - 1).testBit c b n = ldS T (ge1 0) c b n := fun b => ldS_congr (fun k hk => by
    rw [all_tb hk]
    unfold ge1
    rw [decide_eq_true (Nat.zero_le k)])
  have hcm : ∀ k, k < n → c k < m := fun k hk => by
    have := c1 k hk (all_tb hk)
    omega
  have hsum := ldS_sum hT0 (c := c) (m := m) n hcm
  have hs2 := sumN_bd (g := fun b => ldS T (ge1 0) c b n) (a := 16) (by decide) m (fun b _ => ⟨ldS_bd hT0 _ _ _ _, by rw [← he]; exact c2 b⟩)
  have hB := ttF_B (T := T) (n := n) (least := least) hT0 10 Ld 0 0 (n : Int) (by omega) (by omega) m c (Nat.zero_le m) (by omega) (fun i _ hi => hcm i hi) (fun b hb => by
    rw [hLd b (by omega), ← he]
    have := c2 b
    omega) (fun b _ hb => hLd b hb)
  omega
end TRY
section REL
variable {K O Rk Z B S W P r : Nat → Int}
theorem DR.tl0 (r : Nat → Int) (k : Nat) : 0 ≤ tlT r k ∧ tlT r k ≤ 15 := by
  have := tlT_bd r k
  omega
theorem DR.tl1 (H : DR K O Rk Z B S W P r) {k : Nat} (hk : k < (srL r 150).length) : 1 ≤ tlT r k := by
  have := (H.srp hk).2.2.1
  unfold tlT
  omega
theorem DR.few0 (H : DR K O Rk Z B S W P r) {LQ : Nat → Int} (SB SL : Nat → Int) (hL : ∀ q, q < (srL r 150).length → LQ q = ro r ((srL r 150).getD q 0) 1 % 16) : (bsI LQ SB SL (2 ^ (srL r 150).length - 1)).1 (2 ^ (srL r 150).length - 1) = fbG r := by
  have hp : 0 < 2 ^ (srL r 150).length := Nat.two_pow_pos _
  have h := bsI_V (T := tlT r) (n := (srL r 150).length) (Lg := LQ) (SB := SB) (SL := SL) (DR.tl0 r) (srL_len r 150) (fun k hk => hL k hk) (2 ^ (srL r 150).length - 1) (by omega) (2 ^ (srL r 150).length - 1) (Nat.le_refl _)
  rw [fbG_V]
  omega
theorem DR.few1 (H : DR K O Rk Z B S W P r) {LQ Ld : Nat → Int} {least : Int} (hL : ∀ q, q < (srL r 150).length → LQ q = ro r ((srL r 150).getD q 0) 1 % 16) (hLd : ∀ b, b < 10 → Ld b = 0) (hle : least = (sumN LQ (srL r 150).length + 16 - 1) / 16) : ttF LQ (srL r 150).length least 10 Ld 0 0 (((srL r 150).length : Nat) : Int) = fbG r := by
  rw [ttF_congr (T := tlT r) (fun q hq => hL q hq), fbG_V]
  refine try_eq (DR.tl0 r) (fun k hk => H.tl1 hk) (srL_len r 150) hLd ?_
  rw [hle, sumN_congr (g2 := tlT r) _ (fun q hq => hL q hq)]
  congr 1
  omega
end REL
