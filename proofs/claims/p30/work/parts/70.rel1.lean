def DRf (Z B S W P r : Nat → Int) (f : Nat) : Prop :=
  (ro r f 0 = 0 ∧ (∀ w, w < 18 → ro r f w = 0) ∧ Z f = -1 ∧ B f = -1 ∧ S f = -1 ∧ W f = 0 ∧ P f = 0) ∨
  (ro r f 0 = 1 ∧ Z f = ro r f 1 ∧ (0 ≤ Z f ∧ Z f ≤ 200) ∧ W f = ro r f 2 ∧ (W f = 0 ∨ W f = 1) ∧ P f = ro r f 5 ∧ (-1 ≤ ro r f 4 ∧ ro r f 4 ≤ 16) ∧
    ((0 < Z f % 16 ∧ B f = ro r f 3 ∧ S f = ro r f 4 ∧ (0 ≤ B f ∧ B f < 24) ∧ 0 ≤ S f ∧ S f + Z f % 16 ≤ 16) ∨ (Z f % 16 = 0 ∧ B f = -1 ∧ S f = -1)))
def DRb (K O Rk Z B W r : Nat → Int) (b : Nat) : Prop :=
  K b = r (3 + b) ∧ (K b = 0 ∨ K b = 1 ∨ K b = 2 ∨ K b = 3) ∧
  (O b = -1 ∨ ∃ f k : Nat, f < 10 ∧ O b = (f : Int) ∧ Rk b = (k : Int) ∧ (k : Int) < Z f / 16 ∧ ro r f (6 + k) = (b : Int)) ∧
  (O b ≠ -1 → K b = 1 ∨ K b = 3) ∧ (K b = 1 → O b ≠ -1) ∧
  (K b = 2 → ∃ f, f < 10 ∧ B f = (b : Int)) ∧
  (∀ f, f < 10 → B f = (b : Int) → K b = 2 ∨ K b = 3) ∧
  (K b = 3 → ∀ f : Nat, f < 10 → (O b = (f : Int) ∨ B f = (b : Int)) → W f = 1)
def DRl (O Rk Z r : Nat → Int) (f : Nat) : Prop := ∀ k : Nat, (k : Int) < Z f / 16 → ∃ b : Nat, b < 24 ∧ ro r f (6 + k) = (b : Int) ∧ O b = (f : Int) ∧ Rk b = (k : Int)
def DRt (Z B S : Nat → Int) : Prop := ∀ f g, f < 10 → g < 10 → f ≠ g → B f = B g → B f ≠ -1 → S f + Z f % 16 ≤ S g ∨ S g + Z g % 16 ≤ S f
def DR (K O Rk Z B S W P r : Nat → Int) : Prop := (∀ f, f < 10 → DRf Z B S W P r f) ∧ (∀ b, b < 24 → DRb K O Rk Z B W r b) ∧ (∀ f, f < 10 → DRl O Rk Z r f) ∧ DRt Z B S
section REL
variable {K O Rk Z B S W P r : Nat → Int}
theorem DRf.ex {f : Nat} (h : DRf Z B S W P r f) : (Z f = -1 ∧ ro r f 0 = 0) ∨ (Z f ≠ -1 ∧ ro r f 0 = 1) := by
  rcases h with h | h
  · exact Or.inl ⟨h.2.2.1, h.1⟩
  · exact Or.inr ⟨by have := h.2.2.1; omega, h.1⟩
theorem DR.DI (H : DR K O Rk Z B S W P r) : DI Z B S W := by
  intro f hf
  rcases H.1 f hf with ⟨-, -, h1, h2, -, h4, -⟩ | ⟨-, -, h1, -, h2, -, -, h3⟩
  · exact ⟨by omega, fun q => absurd h2 q, Or.inl h4⟩
  · refine ⟨by omega, fun q => ?_, h2⟩
    rcases h3 with ⟨-, -, -, a, b, c⟩ | ⟨-, a, -⟩
    · exact ⟨a, h1.1, b, c⟩
    · exact absurd a q
theorem DR.RI (H : DR K O Rk Z B S W P r) : RI r := by
  intro f hf
  rcases H.1 f hf with ⟨h0, hz, -⟩ | ⟨h0, e1, h1, e2, h2, -, e4, h3⟩
  · have a1 := hz 1 (by decide)
    have a2 := hz 2 (by decide)
    have a4 := hz 4 (by decide)
    exact ⟨Or.inl h0, by omega, fun q => by omega, by omega, fun k hk => by omega, by omega⟩
  · refine ⟨Or.inr h0, by omega, fun q => ?_, e4, fun k hk => ?_, by omega⟩
    · rcases h3 with ⟨-, b1, b2, b3, b4, b5⟩ | ⟨b1, -⟩
      · omega
      · omega
    · obtain ⟨b, hb, hr, -⟩ := H.2.2.1 f hf k (by omega)
      omega
theorem DRf.tail {f : Nat} (h : DRf Z B S W P r f) {b : Int} (hb : 0 ≤ b) : hasT r f b = decide (B f = b) := by
  rcases h with ⟨h0, -, -, h2, -⟩ | ⟨h0, e1, h1, -, -, -, -, h3⟩
  · rw [hasT_no (Or.inl (by omega)), decide_eq_false (by omega)]
  · rcases h3 with ⟨c1, c2, -⟩ | ⟨c1, c2, -⟩
    · rw [hasT_yes h0 (by omega), c2]
    · rw [hasT_no (Or.inr (by omega)), decide_eq_false (by omega)]
theorem DRf.tl {f : Nat} (h : DRf Z B S W P r f) (hB : B f ≠ -1) : ro r f 0 = 1 ∧ Z f = ro r f 1 ∧ W f = ro r f 2 ∧ 0 < Z f % 16 ∧ B f = ro r f 3 ∧ S f = ro r f 4 ∧ (0 ≤ B f ∧ B f < 24) ∧ 0 ≤ S f ∧ S f + Z f % 16 ≤ 16 := by
  rcases h with ⟨-, -, -, h2, -⟩ | ⟨h0, e1, h1, e2, -, -, -, h3⟩
  · exact absurd h2 hB
  · rcases h3 with ⟨c1, c2, c3, c4, c5, c6⟩ | ⟨c1, c2, -⟩
    · exact ⟨h0, e1, e2, c1, c2, c3, c4, c5, c6⟩
    · exact absurd c2 hB
theorem DR.own (H : DR K O Rk Z B S W P r) {f b : Nat} (hf : f < 10) (hb : b < 24) (h : O b = (f : Int)) : ∃ k : Nat, Rk b = (k : Int) ∧ (k : Int) < Z f / 16 ∧ ro r f (6 + k) = (b : Int) := by
  rcases (H.2.1 b hb).2.2.1 with h1 | ⟨g, k, hg, h1, h2, h3, h4⟩
  · omega
  · have e : g = f := by omega
    subst e
    exact ⟨k, h2, h3, h4⟩
theorem DR.inn (H : DR K O Rk Z B S W P r) {f b : Nat} (hf : f < 10) (hb : b < 24) : hasIn r f (b : Int) = hsB O Z B f b := by
  have hF := H.1 f hf
  unfold hasIn hsB
  rw [hF.tail (by omega)]
  rcases hF.ex with ⟨h1, h2⟩ | ⟨h1, h2⟩
  · have h3 : B f ≠ (b : Int) := by
      rcases hF with ⟨-, -, -, c, -⟩ | ⟨c, -⟩
      · omega
      · omega
    rw [decide_eq_false h3, decide_eq_false (p := ro r f 0 = 1) (by omega), decide_eq_false (p := Z f ≠ -1) (by omega)]
    rfl
  · rw [decide_eq_true (p := ro r f 0 = 1) h2, decide_eq_true (p := Z f ≠ -1) h1, Bool.true_and, Bool.true_and, Bool.or_comm]
    congr 1
    have hz : Z f = ro r f 1 := by
      rcases hF with ⟨c, -⟩ | ⟨-, c, -⟩
      · omega
      · exact c
    have h200 : 0 ≤ Z f := by
      rcases hF with ⟨c, -⟩ | ⟨-, -, c, -⟩
      · omega
      · exact c.1
    by_cases ho : O b = (f : Int)
    · rw [decide_eq_true ho]
      obtain ⟨k, -, hk, hr⟩ := H.own hf hb ho
      exact orN_iff.mpr ⟨k, by omega, decide_eq_true hr⟩
    · rw [decide_eq_false ho]
      cases hh : orN (fun k => decide (ro r f (6 + k) = (b : Int))) (ro r f 1 / 16).toNat with
      | false => rfl
      | true =>
        obtain ⟨k, hk, hr⟩ := orN_iff.mp hh
        obtain ⟨b2, hb2, hr2, ho2, -⟩ := H.2.2.1 f hf k (by omega)
        have hr := of_decide_eq_true hr
        have e : b2 = b := by omega
        subst e
        exact absurd ho2 ho
-- bits
theorem btB_tb (n c : Nat) : btB ((n : Nat) : Int) c = n.testBit c := by
  unfold btB
  rw [Nat.testBit_eq_decide_div_mod_eq]
  have h : (((n : Nat) : Int) / 2 ^ c % 2 = 1) ↔ (n / 2 ^ c % 2 = 1) := by
    rw [show ((2 : Int) ^ c) = ((2 ^ c : Nat) : Int) by push_cast; rfl]
    omega
  exact decide_eq_decide.mpr h
theorem tkM_tb {z s : Int} (hs : 0 ≤ s) (c : Nat) : (tkM z s).testBit c = decide (s ≤ (c : Int) ∧ (c : Int) < s + z % 16) := by
  have h1 : (1 * 2 ^ (z % 16).toNat - 1) * 2 ^ s.toNat = (((2 ^ (z % 16).toNat - 1) * 2 ^ s.toNat : Nat) : Int) := by
    have : 1 ≤ 2 ^ (z % 16).toNat := Nat.one_le_two_pow
    rw [Int.one_mul]
    push_cast
    rw [Int.natCast_sub this]
    push_cast
    rfl
  have h2 : tkM z s = (2 ^ (z % 16).toNat - 1) <<< s.toNat := by
    unfold tkM
    rw [h1, Int.toNat_natCast, Nat.shiftLeft_eq]
  rw [h2, Nat.testBit_shiftLeft, Nat.testBit_two_pow_sub_one]
  have h3 : 0 ≤ z % 16 := by omega
  by_cases ha : s ≤ (c : Int)
  · rw [decide_eq_true (p := c ≥ s.toNat) (by omega), Bool.true_and]
    exact decide_eq_decide.mpr (by omega)
  · rw [decide_eq_false (p := c ≥ s.toNat) (by omega), Bool.false_and, decide_eq_false (by omega)]
theorem tkF_tb {lo b : Int} (hS : ∀ f, f < 10 → B f = b → 0 ≤ S f) (c : Nat) : ∀ n, n ≤ 10 → (tkF Z B S b lo n).testBit c = orN (fun f => decide (B f = b ∧ (f : Int) ≠ lo ∧ S f ≤ (c : Int) ∧ (c : Int) < S f + Z f % 16)) n := by
  intro n
  induction n with
  | zero => intro _; exact Nat.zero_testBit c
  | succ n ih =>
    intro hn
    by_cases h : B n = b ∧ (n : Int) ≠ lo
    · rw [tkF_t h.1 h.2, Nat.testBit_or, ih (by omega), tkM_tb (hS n (by omega) h.1)]
      show _ = (orN _ n || _)
      congr 1
      exact decide_eq_decide.mpr ⟨fun q => ⟨h.1, h.2, q⟩, fun q => q.2.2⟩
    · rw [tkF_f h, ih (by omega)]
      show _ = (orN _ n || decide (B n = b ∧ (n : Int) ≠ lo ∧ S n ≤ (c : Int) ∧ (c : Int) < S n + Z n % 16))
      rw [decide_eq_false (p := B n = b ∧ (n : Int) ≠ lo ∧ S n ≤ (c : Int) ∧ (c : Int) < S n + Z n % 16) (fun q => h ⟨q.1, q.2.1⟩), Bool.or_false]
theorem DR.S0 (H : DR K O Rk Z B S W P r) {b : Int} (hb : 0 ≤ b) : ∀ f, f < 10 → B f = b → 0 ≤ S f := fun f hf h => ((H.1 f hf).tl (by omega)).2.2.2.2.2.2.2.1
theorem DR.tk (H : DR K O Rk Z B S W P r) {b c : Nat} : isTk r (b : Int) (c : Int) = btB ((tkA Z B S (b : Int) (-1) : Nat) : Int) c := by
  rw [btB_tb]
  unfold tkA isTk
  rw [tkF_tb (H.S0 (by omega)) c 10 (Nat.le_refl _)]
  refine orN_congr 10 (fun f hf => ?_)
  have hF := H.1 f hf
  unfold takB
  rw [hF.tail (by omega)]
  by_cases h : B f = (b : Int)
  · obtain ⟨-, e1, -, -, -, e4, -⟩ := hF.tl (by omega)
    rw [decide_eq_true h, Bool.true_and]
    unfold inB
    refine decide_eq_decide.mpr ?_
    rw [← e1, ← e4]
    omega
  · rw [decide_eq_false h, Bool.false_and]
    exact (decide_eq_false (fun q => h q.1)).symm
theorem gapLen_congr {tk tk2 : Nat → Bool} : ∀ k c, (∀ i, c ≤ i → i < c + k → tk i = tk2 i) → gapLen tk k c = gapLen tk2 k c := by
  intro k
  induction k with
  | zero => intro c _; rfl
  | succ k ih =>
    intro c h
    show (if tk c = true then 0 else gapLen tk k (c + 1) + 1) = (if tk2 c = true then 0 else gapLen tk2 k (c + 1) + 1)
    rw [h c (Nat.le_refl _) (by omega), ih (c + 1) (fun i h1 h2 => h i (by omega) (by omega))]
theorem DR.kind (H : DR K O Rk Z B S W P r) {b : Nat} (hb : b < 24) : K b = r (3 + b) := (H.2.1 b hb).1
theorem full_tb : ∀ c, c < 16 → btB ((65535 : Nat) : Int) c = true := by decide
theorem DR.kp (H : DR K O Rk Z B S W P r) {i : Nat} (hi : i < 384) : kpN K Z B S i = gapK r i := by
  have hk := H.kind (b := i / 16) (by omega)
  unfold kpN gapK ktN
  by_cases h2 : K (i / 16) = 2
  · rw [if_pos h2, ← hk, decide_eq_true h2]
    have ht : ∀ c : Nat, tkC r (i / 16) c = btB ((tkA Z B S ((i / 16 : Nat) : Int) (-1) : Nat) : Int) c := fun c => H.tk
    by_cases h0 : i % 16 = 0 ∨ btB ((tkA Z B S ((i / 16 : Nat) : Int) (-1) : Nat) : Int) (i % 16 - 1) = true
    · rw [if_pos h0]
      unfold gapL
      cases hc : btB ((tkA Z B S ((i / 16 : Nat) : Int) (-1) : Nat) : Int) (i % 16) with
      | true => rw [gapLen_0 hc, gapAt_0 (Or.inr (Or.inl (by rw [ht]; exact hc)))]
      | false =>
        rw [gapAt_1 rfl (by rw [ht]; exact hc) (by rw [ht]; exact h0)]
        exact gapLen_congr _ _ (fun j _ _ => (ht j).symm)
    · rw [if_neg h0, gapAt_0]
      refine Or.inr (Or.inr ⟨by omega, ?_⟩)
      rw [ht]
      cases hc : btB ((tkA Z B S ((i / 16 : Nat) : Int) (-1) : Nat) : Int) (i % 16 - 1) with
      | false => rfl
      | true => exact absurd (Or.inr hc) h0
  · rw [if_neg h2, ← hk, decide_eq_false h2, gapAt_0 (Or.inl rfl)]
    split
    · exact gapLen_0 (full_tb _ (by omega))
    · rfl
theorem gfN_congr {rule cells : Int} {g g2 : Nat → Nat} : ∀ n, (∀ i, i < n → g i = g2 i) → gfN rule cells g n = gfN rule cells g2 n := by
  intro n
  induction n with
  | zero => intro _; rfl
  | succ n ih =>
    intro h
    show gfStep rule cells g (gfN rule cells g n) n = gfStep rule cells g2 (gfN rule cells g2 n) n
    rw [ih (fun i hi => h i (by omega))]
    unfold gfStep
    rw [h n (by omega)]
theorem DR.lf (H : DR K O Rk Z B S W P r) : lfN K = lowF r := firstN_congr 24 (fun b hb => by rw [H.kind hb])
theorem DR.pl (H : DR K O Rk Z B S W P r) {rule x : Int} (hr : rule = r 2) : plN K Z B S rule x = plcF r x := by
  unfold plN plcF gapF
  rw [hr, H.lf, gfN_congr 384 (fun i hi => H.kp hi)]
theorem DR.fil (H : DR K O Rk Z B S W P r) : sumN (fun f => if Z f = -1 then (0 : Int) else 1) 10 = filF r := by
  refine sumN_congr 10 (fun f hf => ?_)
  show (if Z f = -1 then (0 : Int) else 1) = ro r f 0
  rcases (H.1 f hf).ex with ⟨h1, h2⟩ | ⟨h1, h2⟩
  · rw [if_pos h1, h2]
  · rw [if_neg h1, h2]
theorem DR.cnt (H : DR K O Rk Z B S W P r) (x : Int) : sumN (fun b => Bi (decide (K b = x))) 24 = cntK r x := sumN_congr 24 (fun b hb => by rw [H.kind hb])
theorem DR.brk (H : DR K O Rk Z B S W P r) : sumN W 10 = sumN (fun f => Bi (brB r f)) 10 := by
  refine sumN_congr 10 (fun f hf => ?_)
  show W f = Bi (brB r f)
  unfold brB
  rcases H.1 f hf with ⟨h0, -, -, -, -, h4, -⟩ | ⟨h0, -, -, e2, h2, -⟩
  · rw [h4, decide_eq_false (p := ro r f 0 = 1) (by omega)]
    rfl
  · rw [decide_eq_true h0, Bool.true_and, ← e2]
    rcases h2 with h2 | h2
    · rw [h2]; rfl
    · rw [h2]; rfl
end REL
theorem maxN_ge {g : Nat → Nat} : ∀ n i, i < n → g i ≤ maxN g n := by
  intro n
  induction n with
  | zero => intro i h; omega
  | succ n ih =>
    intro i h
    show g i ≤ if maxN g n < g n then g n else maxN g n
    by_cases e : i = n
    · subst e; split <;> omega
    · have := ih i (by omega)
      split <;> omega
theorem maxN_at {g : Nat → Nat} : ∀ n, maxN g n = 0 ∨ ∃ i, i < n ∧ maxN g n = g i := by
  intro n
  induction n with
  | zero => exact Or.inl rfl
  | succ n ih =>
    by_cases h : maxN g n < g n
    · exact Or.inr ⟨n, by omega, maxN_t h⟩
    · rw [maxN_f h]
      rcases ih with h1 | ⟨i, h1, h2⟩
      · exact Or.inl h1
      · exact Or.inr ⟨i, by omega, h2⟩
/-- m cells from c on are free -/
def frE (tk : Nat → Bool) (c m : Nat) : Prop := ∀ i, i < m → tk (c + i) = false
theorem gapLen_fr (tk : Nat → Bool) : ∀ k c, frE tk c (gapLen tk k c) := by
  intro k
  induction k with
  | zero => intro c i h; exact absurd h (Nat.not_lt_zero i)
  | succ k ih =>
    intro c i h
    cases hc : tk c with
    | true => rw [gapLen_0 hc] at h; omega
    | false =>
      rw [gapLen_s (by omega) hc, Nat.add_sub_cancel] at h
      by_cases e : i = 0
      · subst e; exact hc
      · have h2 := ih (c + 1) (i - 1) (by omega)
        rw [show c + 1 + (i - 1) = c + i by omega] at h2
        exact h2
theorem gapLen_ge (tk : Nat → Bool) : ∀ k c m, m ≤ k → frE tk c m → m ≤ gapLen tk k c := by
  intro k
  induction k with
  | zero => intro c m h _; omega
  | succ k ih =>
    intro c m h hf
    by_cases e : m = 0
    · omega
    · have hc := hf 0 (by omega)
      rw [gapLen_s (by omega) (by simpa using hc), Nat.add_sub_cancel]
      have h2 := ih (c + 1) (m - 1) (by omega) (fun i hi => by
        have h3 := hf (i + 1) (by omega)
        rw [show c + 1 + i = c + (i + 1) by omega]
        exact h3)
      omega
theorem gapAt_fr {tk : Nat → Bool} (c : Nat) : frE tk c (gapAt true tk c) := by
  unfold gapAt
  split
  · intro i h; exact absurd h (Nat.not_lt_zero i)
  · exact gapLen_fr tk _ _
theorem gapAt_in {tk : Nat → Bool} {sh : Bool} {c : Nat} (hc : c ≤ 16) : c + gapAt sh tk c ≤ 16 := by
  unfold gapAt
  split
  · omega
  · have := gapLen_le tk (16 - c) c
    omega
theorem gap_start {tk : Nat → Bool} : ∀ c m, 0 < m → c + m ≤ 16 → frE tk c m → ∃ c2, c2 < 16 ∧ m ≤ gapAt true tk c2 := by
  intro c
  induction c with
  | zero =>
    intro m h0 h1 h2
    refine ⟨0, by decide, ?_⟩
    rw [gapAt_1 rfl (by simpa using h2 0 h0) (Or.inl rfl)]
    exact gapLen_ge tk _ _ _ (by omega) h2
  | succ c ih =>
    intro m h0 h1 h2
    cases hc : tk c with
    | true =>
      refine ⟨c + 1, by omega, ?_⟩
      rw [gapAt_1 rfl (by simpa using h2 0 h0) (Or.inr (by rw [Nat.add_sub_cancel]; exact hc))]
      exact gapLen_ge tk _ _ _ (by omega) h2
    | false =>
      obtain ⟨c2, h3, h4⟩ := ih (m + 1) (by omega) (by omega) (fun i hi => by
        by_cases e : i = 0
        · subst e; exact hc
        · have := h2 (i - 1) (by omega)
          rw [show c + 1 + (i - 1) = c + i by omega] at this
          exact this)
      exact ⟨c2, h3, by omega⟩
theorem lgN_inv (t : Int) : ∀ n, ((lgN t n).2 ≤ n ∧ frE (btB t) (n - (lgN t n).2) (lgN t n).2 ∧ (∀ m, m ≤ n → frE (btB t) (n - m) m → m ≤ (lgN t n).2)) ∧ (∃ c, c + (lgN t n).1 ≤ n ∧ frE (btB t) c (lgN t n).1) ∧ ∀ c m, c + m ≤ n → frE (btB t) c m → m ≤ (lgN t n).1 := by
  intro n
  induction n with
  | zero => exact ⟨⟨Nat.le_refl _, fun i h => absurd h (Nat.not_lt_zero i), fun m h _ => h⟩, ⟨0, Nat.le_refl _, fun i h => absurd h (Nat.not_lt_zero i)⟩, fun c m h _ => (by show m ≤ 0; omega)⟩
  | succ n ih =>
    obtain ⟨⟨a1, a2, a3⟩, ⟨c0, b1, b2⟩, b3⟩ := ih
    cases hc : btB t n with
    | true =>
      rw [lgN_t hc]
      have hz : ∀ m, m ≤ n + 1 → frE (btB t) (n + 1 - m) m → m ≤ 0 := fun m hm hf => by
        by_cases e : m = 0
        · omega
        · have h1 := hf (m - 1) (by omega)
          rw [show n + 1 - m + (m - 1) = n by omega, hc] at h1
          cases h1
      refine ⟨⟨Nat.zero_le _, fun i h => absurd h (Nat.not_lt_zero i), hz⟩, ⟨c0, by show c0 + (lgN t n).1 ≤ n + 1; omega, b2⟩, fun c m hm hf => ?_⟩
      by_cases e : c + m = n + 1
      · have := hz m (by omega) (by rw [show n + 1 - m = c by omega]; exact hf)
        omega
      · exact b3 c m (by omega) hf
    | false =>
      rw [lgN_f hc]
      have hx : frE (btB t) (n + 1 - ((lgN t n).2 + 1)) ((lgN t n).2 + 1) := fun i hi => by
        by_cases e : i = (lgN t n).2
        · subst e
          rw [show n + 1 - ((lgN t n).2 + 1) + (lgN t n).2 = n by omega]
          exact hc
        · have h1 := a2 i (by omega)
          rw [show n + 1 - ((lgN t n).2 + 1) + i = n - (lgN t n).2 + i by omega]
          exact h1
      have hz : ∀ m, m ≤ n + 1 → frE (btB t) (n + 1 - m) m → m ≤ (lgN t n).2 + 1 := fun m hm hf => by
        by_cases e : m = 0
        · omega
        · have h1 := a3 (m - 1) (by omega) (fun i hi => by
            have h2 := hf i (by omega)
            rw [show n - (m - 1) + i = n + 1 - m + i by omega]
            exact h2)
          omega
      refine ⟨⟨by show (lgN t n).2 + 1 ≤ n + 1; omega, hx, hz⟩, ?_, fun c m hm hf => ?_⟩
      · show ∃ c, c + max (lgN t n).1 ((lgN t n).2 + 1) ≤ n + 1 ∧ frE (btB t) c (max (lgN t n).1 ((lgN t n).2 + 1))
        by_cases e : (lgN t n).1 ≤ (lgN t n).2 + 1
        · rw [Nat.max_eq_right e]
          exact ⟨n + 1 - ((lgN t n).2 + 1), by omega, hx⟩
        · rw [Nat.max_eq_left (by omega)]
          exact ⟨c0, by omega, b2⟩
      · show m ≤ max (lgN t n).1 ((lgN t n).2 + 1)
        by_cases e : c + m = n + 1
        · have := hz m (by omega) (by rw [show n + 1 - m = c by omega]; exact hf)
          omega
        · have := b3 c m (by omega) hf
          omega
theorem frE_congr {tk tk2 : Nat → Bool} {c m : Nat} (h : ∀ i, c ≤ i → i < c + m → tk i = tk2 i) (hf : frE tk c m) : frE tk2 c m := fun i hi => by
  rw [← h (c + i) (by omega) (by omega)]
  exact hf i hi
theorem lg_eq {t : Int} {tk : Nat → Bool} (h : ∀ c, c < 16 → tk c = btB t c) : maxN (gapAt true tk) 16 = (lgN t 16).1 := by
  obtain ⟨-, ⟨c0, b1, b2⟩, b3⟩ := lgN_inv t 16
  refine Nat.le_antisymm ?_ ?_
  · rcases maxN_at (g := gapAt true tk) 16 with h1 | ⟨i, hi, h1⟩
    · omega
    · rw [h1]
      have h2 := gapAt_in (tk := tk) (sh := true) (c := i) (by omega)
      exact b3 i _ h2 (frE_congr (fun j _ hj => h j (by omega)) (gapAt_fr i))
  · by_cases e : (lgN t 16).1 = 0
    · omega
    · obtain ⟨c2, h1, h2⟩ := gap_start (tk := tk) c0 _ (by omega) b1 (frE_congr (fun j _ hj => (h j (by omega)).symm) b2)
      exact Nat.le_trans h2 (maxN_ge 16 c2 h1)
-- cells
theorem pcN_tb (x : Nat) : ∀ n, pcN x (n + 1) = pcN x n + (x.testBit n).toNat := by
  intro n
  show pcN x n + x / 2 ^ n % 2 = _
  rw [Nat.testBit_eq_decide_div_mod_eq]
  rcases Nat.mod_two_eq_zero_or_one (x / 2 ^ n) with h | h
  · rw [h]; rfl
  · rw [h]; rfl
theorem pcN_or {x y : Nat} : ∀ n, (∀ c, c < n → ¬ (x.testBit c = true ∧ y.testBit c = true)) → pcN (x ||| y) n = pcN x n + pcN y n := by
  intro n
  induction n with
  | zero => intro _; rfl
  | succ n ih =>
    intro h
    rw [pcN_tb, pcN_tb, pcN_tb, ih (fun c hc => h c (by omega)), Nat.testBit_or]
    have h1 := h n (by omega)
    cases hx : x.testBit n <;> cases hy : y.testBit n <;> simp [hx, hy] at h1 ⊢ <;> omega
theorem pcN_iv {x s t : Nat} (hx : ∀ c, c < 16 → x.testBit c = decide (s ≤ c ∧ c < s + t)) (hb : s + t ≤ 16) : ∀ n, n ≤ 16 → pcN x n = min n (s + t) - min n s := by
  intro n
  induction n with
  | zero => intro _; simp [pcN]
  | succ n ih =>
    intro hn
    rw [pcN_tb, ih (by omega), hx n (by omega)]
    by_cases h : s ≤ n ∧ n < s + t
    · rw [decide_eq_true h]
      show _ + 1 = _
      omega
    · rw [decide_eq_false h]
      show _ + 0 = _
      omega
section REL
variable {K O Rk Z B S W P r : Nat → Int}
theorem DR.cells (H : DR K O Rk Z B S W P r) {b : Nat} : ∀ n, n ≤ 10 → ((pcN (tkF Z B S (b : Int) (-1) n) 16 : Nat) : Int) = sumN (fun f => if hasT r f (b : Int) = true then ro r f 1 % 16 else 0) n := by
  intro n
  induction n with
  | zero => intro _; show ((pcN 0 16 : Nat) : Int) = 0; decide
  | succ n ih =>
    intro hn
    have hF := H.1 n (by omega)
    show _ = sumN _ n + (if hasT r n (b : Int) = true then ro r n 1 % 16 else 0)
    rw [← ih (by omega), hF.tail (by omega)]
    by_cases h : B n = (b : Int)
    · obtain ⟨-, e1, -, e2, -, e4, e5, e6, e7⟩ := hF.tl (by omega)
      rw [tkF_t h (by omega), if_pos (decide_eq_true h), pcN_or, ← e1]
      · have h1 := pcN_iv (x := tkM (Z n) (S n)) (s := (S n).toNat) (t := (Z n % 16).toNat) (fun c _ => by rw [tkM_tb e6]; exact decide_eq_decide.mpr (by omega)) (by omega) 16 (Nat.le_refl _)
        rw [h1]
        omega
      · intro c hc ⟨h1, h2⟩
        rw [tkF_tb (H.S0 (by omega)) c n (by omega)] at h1
        obtain ⟨g, hg, h3⟩ := orN_iff.mp h1
        have h3 := of_decide_eq_true h3
        rw [tkM_tb e6] at h2
        have h2 := of_decide_eq_true h2
        have h4 := H.2.2.2 g n (by omega) (by omega) (by omega) (by omega) (by omega)
        omega
    · rw [tkF_f (fun q => h q.1), if_neg (by rw [decide_eq_false h]; decide), Int.add_zero]
theorem DR.tc (H : DR K O Rk Z B S W P r) {b : Nat} : ((pcN (tkA Z B S (b : Int) (-1)) 16 : Nat) : Int) = tcF r (b : Int) := H.cells 10 (Nat.le_refl _)
theorem DR.no2 (H : DR K O Rk Z B S W P r) {b : Nat} (hb : b < 24) (h : K b = 0 ∨ K b = 1) {f : Nat} (hf : f < 10) : B f ≠ (b : Int) := fun q => by
  have := (H.2.1 b hb).2.2.2.2.2.2.1 f hf q
  omega
theorem DR.lg (H : DR K O Rk Z B S W P r) {b : Nat} (hb : b < 24) : ((lgF r b : Nat) : Int) = if K b = 2 then (((lgN ((tkA Z B S (b : Int) (-1) : Nat) : Int) 16).1 : Nat) : Int) else 0 := by
  unfold lgF
  rw [← H.kind hb]
  by_cases h : K b = 2
  · rw [if_pos h, decide_eq_true h, lg_eq (tk := tkC r b) (t := ((tkA Z B S (b : Int) (-1) : Nat) : Int)) (fun c _ => H.tk)]
  · rw [if_neg h, decide_eq_false h]
    have h1 : maxN (gapAt false (tkC r b)) 16 ≤ 0 := maxN_bd 16 (fun i _ => by rw [gapAt_0 (Or.inl rfl)]; exact Nat.le_refl 0)
    omega
theorem owN_no {c : Nat → Bool} : ∀ n, n ≤ 10 → (∀ f, f < 10 → 9 - f < n → c f = false) → owN c n = -1 := by
  intro n
  induction n with
  | zero => intro _ _; rfl
  | succ n ih =>
    intro hn h
    rw [owN_f (h (9 - n) (by omega) (by omega))]
    exact ih (by omega) (fun f hf h1 => h f hf (by omega))
theorem owN_one {c : Nat → Bool} {g : Nat} (hg : g < 10) (h1 : c g = true) (h2 : ∀ f, f < 10 → f ≠ g → c f = false) : ∀ n, n ≤ 10 → 9 - g < n → owN c n = (g : Int) := by
  intro n
  induction n with
  | zero => intro _ h; omega
  | succ n ih =>
    intro hn h
    by_cases e : 9 - n = g
    · rw [owN_t (by rw [e]; exact h1)]
      omega
    · rw [owN_f (h2 (9 - n) (by omega) e)]
      exact ih (by omega) (by omega)
theorem DR.bp (H : DR K O Rk Z B S W P r) {b w : Nat} (hb : b < 24) (hw : w < 5) : bpN K O Z B S b w = biF r b w := by
  have hk := H.kind hb
  have hB := H.2.1 b hb
  have hkk := hB.2.1
  rcases (show w = 0 ∨ w = 1 ∨ w = 2 ∨ w = 3 ∨ w = 4 by omega) with rfl | rfl | rfl | rfl | rfl
  · exact hk
  · show tnN K B b = if r (3 + b) = 3 then 0 else sumN (fun f => Bi (hasT r f b)) 10
    rw [← hk]
    have h1 : sumN (fun f => Bi (hasT r f b)) 10 = sumN (fun f => Bi (decide (B f = b))) 10 := sumN_congr 10 (fun f hf => by rw [(H.1 f hf).tail (by omega)])
    unfold tnN
    rw [h1]
    by_cases h2 : K b = 2
    · rw [if_pos h2, if_neg (by omega)]
    · rw [if_neg h2]
      by_cases h3 : K b = 3
      · rw [if_pos h3]
      · rw [if_neg h3]
        have h4 : sumN (fun f => Bi (decide (B f = (b : Int)))) 10 = sumN (fun _ => 0) 10 := sumN_congr 10 (fun f hf => by rw [decide_eq_false (H.no2 hb (by omega) hf)]; rfl)
        rw [h4]
        decide
  · show ((tcN K Z B S b : Nat) : Int) = if r (3 + b) = 3 then 0 else tcF r b
    rw [← hk, ← H.tc]
    unfold tcN
    by_cases h2 : K b = 2
    · rw [if_pos h2, if_neg (by omega)]
    · rw [if_neg h2]
      by_cases h3 : K b = 3
      · rw [if_pos h3]; rfl
      · rw [if_neg h3, H.tc]
        have h4 : tcF r (b : Int) = sumN (fun _ => 0) 10 := sumN_congr 10 (fun f hf => by rw [(H.1 f hf).tail (by omega), decide_eq_false (H.no2 hb (by omega) hf)]; rfl)
        rw [h4]
        decide
  · exact (H.lg hb).symm
  · show (if K b = 1 then O b else -1) = ownF r b
    unfold ownF
    rw [← hk]
    by_cases h1 : K b = 1
    · rw [if_pos h1]
      rcases hB.2.2.1 with h2 | ⟨g, k, hg, h2, -⟩
      · exact absurd h2 (hB.2.2.2.2.1 h1)
      · have hz : Z g ≠ -1 := by
          rcases (H.1 g hg).ex with ⟨h3, -⟩ | ⟨h3, -⟩
          · obtain ⟨k, -, h5, -⟩ := H.own hg hb h2
            omega
          · exact h3
        rw [h2, owN_one hg]
        · show (decide (K b = 1) && hasIn r g b) = true
          rw [H.inn hg hb, decide_eq_true h1, Bool.true_and]
          unfold hsB
          rw [decide_eq_true hz, decide_eq_true h2]
          rfl
        · intro f hf hfg
          show (decide (K b = 1) && hasIn r f b) = false
          rw [H.inn hf hb, decide_eq_true h1, Bool.true_and]
          unfold hsB
          rw [decide_eq_false (p := O b = (f : Int)) (by omega), decide_eq_false (H.no2 hb (Or.inr h1) hf), Bool.or_false, Bool.and_false]
        · omega
        · omega
    · rw [if_neg h1, owN_no 10 (Nat.le_refl _)]
      intro f _ _
      show (decide (K b = 1) && hasIn r f b) = false
      rw [decide_eq_false h1, Bool.false_and]
theorem DR.fp (H : DR K O Rk Z B S W P r) {f w : Nat} (hf : f < 10) (hz : Z f ≠ -1) (hw : w < 7) : fpN Z B S W P f w = prF r f w := by
  rcases H.1 f hf with ⟨-, -, h1, -⟩ | ⟨h0, e1, h1, e2, -, e5, -, h3⟩
  · exact absurd h1 hz
  · rcases (show w = 0 ∨ w = 1 ∨ w = 2 ∨ w = 3 ∨ w = 4 ∨ w = 5 ∨ w = 6 by omega) with rfl | rfl | rfl | rfl | rfl | rfl | rfl
    · exact e1
    · show Z f / 16 = ro r f 1 / 16
      rw [e1]
    · show Z f % 16 = ro r f 1 % 16
      rw [e1]
    · show B f = if ro r f 1 % 16 = 0 then -1 else ro r f 3
      rcases h3 with ⟨c1, c2, c3, -⟩ | ⟨c1, c2, c3⟩
      · rw [if_neg (by omega), c2]
      · rw [if_pos (by omega), c2]
    · show S f = if ro r f 1 % 16 = 0 then -1 else ro r f 4
      rcases h3 with ⟨c1, c2, c3, -⟩ | ⟨c1, c2, c3⟩
      · rw [if_neg (by omega), c3]
      · rw [if_pos (by omega), c3]
    · exact e2
    · exact e5
theorem DR.wi (H : DR K O Rk Z B S W P r) {f c : Nat} (hf : f < 10) (hc : (c : Int) < Z f) : wiN K O Rk Z B S f c = plO r f c := by
  rcases H.1 f hf with ⟨-, -, h1, -⟩ | ⟨h0, e1, h1, e2, -, e5, -, h3⟩
  · omega
  · unfold wiN plO plB
    rw [← e1]
    by_cases h : ((c / 16 : Nat) : Int) = Z f / 16
    · rw [if_pos h, if_pos h, if_pos h]
      rcases h3 with ⟨c1, c2, c3, c4, -⟩ | ⟨c1, c2, c3⟩
      · rw [← c2, ← c3, H.kind (b := (B f).toNat) (by omega)]
        split
        · rfl
        · omega
      · omega
    · rw [if_neg h, if_neg h, if_neg h]
      obtain ⟨b, hb, hr, ho, hk⟩ := H.2.2.1 f hf (c / 16) (by omega)
      rw [hr, Int.toNat_natCast, ← H.kind hb]
      have h2 : firstN (fun b => decide (O b = (f : Int)) && decide (Rk b = ((c / 16 : Nat) : Int))) 24 = (b : Int) := by
        rcases firstN_cases (fun b => decide (O b = (f : Int)) && decide (Rk b = ((c / 16 : Nat) : Int))) 24 with ⟨-, h5⟩ | ⟨i, h5, h6, h7, -⟩
        · have h6 := h5 b hb
          rw [decide_eq_true ho, decide_eq_true hk] at h6
          cases h6
        · rw [h6]
          have h8 := Bool.and_eq_true_iff.mp h7
          have h9 := of_decide_eq_true h8.1
          have h10 := of_decide_eq_true h8.2
          obtain ⟨k2, h11, -, h13⟩ := H.own hf h5 h9
          have e : k2 = c / 16 := by omega
          subst e
          omega
      rw [h2]
      unfold wiW
      rw [if_neg (by omega), Int.toNat_natCast]
      split
      · rfl
      · omega
theorem DR.gcS (H : DR K O Rk Z B S W P r) : sumN (fun b => ((tcN K Z B S b : Nat) : Int)) 24 = sumN (gcT r) 24 := by
  refine sumN_congr 24 (fun b hb => ?_)
  show ((tcN K Z B S b : Nat) : Int) = if r (3 + b) = 2 then tcF r b else 0
  unfold tcN
  rw [← H.kind hb]
  split
  · exact H.tc
  · rfl
theorem DR.gp (H : DR K O Rk Z B S W P r) : 16 * cntK r 2 - sumN (gcT r) 24 = sumN (gpT r) 24 := by
  unfold cntK
  have h : ∀ n, 16 * sumN (fun b => Bi (decide (r (3 + b) = 2))) n - sumN (gcT r) n = sumN (gpT r) n := by
    intro n
    induction n with
    | zero => rfl
    | succ n ih =>
      show 16 * (sumN _ n + Bi (decide (r (3 + n) = 2))) - (sumN _ n + gcT r n) = sumN _ n + gpT r n
      rw [← ih]
      unfold gcT gpT
      by_cases h : r (3 + n) = 2
      · rw [if_pos h, if_pos h, decide_eq_true h]
        show 16 * (_ + 1) - _ = _
        omega
      · rw [if_neg h, if_neg h, decide_eq_false h]
        show 16 * (_ + 0) - _ = _
        omega
  exact h 24
theorem wkN_congr {c c2 : Nat → Int} : ∀ n, (∀ b, b < n → c b = c2 b) → wkN c n = wkN c2 n := by
  intro n
  induction n with
  | zero => intro _; rfl
  | succ n ih =>
    intro h
    show (if (wkN c n).2 < c n then ((n : Int), c n) else wkN c n) = (if (wkN c2 n).2 < c2 n then ((n : Int), c2 n) else wkN c2 n)
    rw [ih (fun b hb => h b (by omega)), h n (by omega)]
theorem DR.cw (H : DR K O Rk Z B S W P r) {b : Nat} (hb : b < 24) : cwN K O Z B W b = wkB r b := by
  unfold cwN wkB
  rw [H.kind hb]
  by_cases h : r (3 + b) = 3
  · rw [if_pos h]
    have h4 : sumN (fun f => Bi (wkT r b f)) 10 = sumN (fun _ => 0) 10 := sumN_congr 10 (fun f hf => by rw [wkT_no (Or.inl h)]; rfl)
    rw [h4]
    decide
  · rw [if_neg h]
    refine sumN_congr 10 (fun f hf => ?_)
    show Bi _ = Bi (wkT r b f)
    congr 1
    unfold wkT
    rw [decide_eq_true h, Bool.true_and, H.inn hf hb]
    cases hh : hsB O Z B f b with
    | false => rfl
    | true =>
      rcases H.1 f hf with ⟨h0, -, h1, -⟩ | ⟨h0, -, -, e2, -⟩
      · unfold hsB at hh
        rw [decide_eq_false (p := Z f ≠ -1) (by omega)] at hh
        cases hh
      · rw [e2]
theorem DR.wk (H : DR K O Rk Z B S W P r) : wkN (cwN K O Z B W) 24 = wkN (wkB r) 24 := wkN_congr 24 (fun _ hb => H.cw hb)
end REL
theorem sumB_0 {p : Nat → Bool} : ∀ n, (sumN (fun i => Bi (p i)) n ≤ 0 ↔ ∀ i, i < n → p i = false) := by
  intro n
  induction n with
  | zero => exact ⟨fun _ i h => absurd h (Nat.not_lt_zero i), fun _ => Int.le_refl 0⟩
  | succ n ih =>
    have h1 := sumN_bd (g := fun i => Bi (p i)) (a := 1) (by decide) n (fun i _ => Bi_bd _)
    have h2 := Bi_bd (p n)
    constructor
    · intro h i hi
      have h : sumN (fun i => Bi (p i)) n + Bi (p n) ≤ 0 := h
      by_cases e : i = n
      · subst e
        exact Bi_eq0 (by omega)
      · exact ih.mp (by omega) i (by omega)
    · intro h
      show sumN (fun i => Bi (p i)) n + Bi (p n) ≤ 0
      have h3 := ih.mpr (fun i hi => h i (by omega))
      rw [h n (by omega)]
      show _ + 0 ≤ 0
      omega
theorem tkA_0 {Z B S : Nat → Int} {lo b : Int} (hS : ∀ g : Nat, g < 10 → B g = b → 0 ≤ S g ∧ ((g : Int) ≠ lo → 0 < Z g % 16)) : tkA Z B S b lo = 0 ↔ ∀ g : Nat, g < 10 → (g : Int) ≠ lo → B g ≠ b := by
  unfold tkA
  constructor
  · intro h g hg hlo hb
    obtain ⟨h1, h2⟩ := hS g hg hb
    have h3 := tkF_tb (Z := Z) (lo := lo) (b := b) (fun f hf hf2 => (hS f hf hf2).1) (S g).toNat 10 (Nat.le_refl _)
    rw [h, Nat.zero_testBit] at h3
    have h4 : orN (fun f => decide (B f = b ∧ (f : Int) ≠ lo ∧ S f ≤ ((S g).toNat : Int) ∧ ((S g).toNat : Int) < S f + Z f % 16)) 10 = true := orN_iff.mpr ⟨g, hg, decide_eq_true ⟨hb, hlo, by omega, by have := h2 hlo; omega⟩⟩
    rw [h4] at h3
    cases h3
  · intro h
    refine Nat.eq_of_testBit_eq (fun c => ?_)
    rw [tkF_tb (fun f hf hf2 => (hS f hf hf2).1) c 10 (Nat.le_refl _), Nat.zero_testBit]
    cases hh : orN (fun f => decide (B f = b ∧ (f : Int) ≠ lo ∧ S f ≤ (c : Int) ∧ (c : Int) < S f + Z f % 16)) 10 with
    | false => rfl
    | true =>
      obtain ⟨g, hg, h1⟩ := orN_iff.mp hh
      have h1 := of_decide_eq_true h1
      exact absurd h1.1 (h g hg h1.2.1)
theorem tkF_lo {Z B S : Nat → Int} {b x y : Int} {f : Nat} (hb : 0 ≤ b) : ∀ n, tkF Z B S b (f : Int) n = tkF (rs Z f x) (rs B f (-1)) (rs S f y) b (-1) n := by
  intro n
  induction n with
  | zero => rfl
  | succ n ih =>
    by_cases e : n = f
    · subst e
      rw [tkF_f (fun q => q.2 rfl), tkF_f (fun q => by rw [rs_eq] at q; omega), ih]
    · by_cases h : B n = b
      · rw [tkF_t h (by omega), tkF_t (by rw [rs_ne e]; exact h) (by omega), ih, rs_ne e, rs_ne e]
      · rw [tkF_f (fun q => h q.1), tkF_f (fun q => by rw [rs_ne e] at q; exact h q.1), ih]
/-- sizes that differ only where there is no tail -/
theorem tkF_Z {Z Z2 B S : Nat → Int} {b lo : Int} (h : ∀ g : Nat, g < 10 → B g = b → Z g = Z2 g) : ∀ n, n ≤ 10 → tkF Z B S b lo n = tkF Z2 B S b lo n := by
  intro n
  induction n with
  | zero => intro _; rfl
  | succ n ih =>
    intro hn
    by_cases e : B n = b ∧ (n : Int) ≠ lo
    · rw [tkF_t e.1 e.2, tkF_t e.1 e.2, ih (by omega), h n (by omega) e.1]
    · rw [tkF_f e, tkF_f e, ih (by omega)]
theorem tkA_Z {Z Z2 B S : Nat → Int} {b lo : Int} (h : ∀ g : Nat, g < 10 → B g = b → Z g = Z2 g) : tkA Z B S b lo = tkA Z2 B S b lo := tkF_Z h 10 (Nat.le_refl _)
theorem kpN_congr {K K2 Z Z2 B S : Nat → Int} {i : Nat} (hK : K (i / 16) = 2 ↔ K2 (i / 16) = 2) (h : ∀ g : Nat, g < 10 → B g ≠ -1 → Z g = Z2 g) : kpN K Z B S i = kpN K2 Z2 B S i := by
  have h1 : ktN K Z B S (i / 16) = ktN K2 Z2 B S (i / 16) := by
    unfold ktN
    by_cases hk : K (i / 16) = 2
    · rw [if_pos hk, if_pos (hK.mp hk)]
      exact tkA_Z (fun g hg hb => h g hg (by omega))
    · rw [if_neg hk, if_neg (fun q => hk (hK.mpr q))]
  unfold kpN
  rw [h1]
theorem plN_Z {K Z Z2 B S : Nat → Int} {rule x : Int} (h : ∀ g : Nat, g < 10 → B g ≠ -1 → Z g = Z2 g) : plN K Z B S rule x = plN K Z2 B S rule x := by
  unfold plN
  rw [gfN_congr 384 (fun i _ => kpN_congr (K := K) (K2 := K) Iff.rfl h)]
theorem hasT_congr {R R2 : Nat → Int} {g : Nat} {b : Int} (h : ∀ w, w < 5 → ro R g w = ro R2 g w) : hasT R g b = hasT R2 g b := by
  have h0 := h 0 (by decide)
  have h1 := h 1 (by decide)
  have h3 := h 3 (by decide)
  unfold hasT
  rw [h0, h3, show tl R g = tl R2 g by show ro R g 1 % 16 = ro R2 g 1 % 16; rw [h1]]
def noT (B : Nat → Int) (f b : Nat) : Bool := !(orN (fun g => decide (g ≠ f ∧ B g = (b : Int))) 10)
theorem noT_iff {B : Nat → Int} {f b : Nat} : noT B f b = true ↔ ∀ g, g < 10 → g ≠ f → B g ≠ (b : Int) := by
  unfold noT
  rw [Bool.not_eq_true']
  constructor
  · intro h g hg hgf q
    have h2 : orN (fun g => decide (g ≠ f ∧ B g = (b : Int))) 10 = true := orN_iff.mpr ⟨g, hg, decide_eq_true ⟨hgf, q⟩⟩
    rw [h2] at h
    cases h
  · intro h
    cases hh : orN (fun g => decide (g ≠ f ∧ B g = (b : Int))) 10 with
    | false => rfl
    | true =>
      obtain ⟨g, hg, q⟩ := orN_iff.mp hh
      have q := of_decide_eq_true q
      exact absurd q.2 (h g hg q.1)
theorem ro_b {R : Nat → Int} {b : Nat} (hb : b < 24) {f w : Nat} : 3 + b ≠ 27 + 18 * f + w := by omega
section REL
variable {K O Rk Z B S W P r : Nat → Int}
theorem DR.S1 (H : DR K O Rk Z B S W P r) {b : Int} (hb : 0 ≤ b) : ∀ g : Nat, g < 10 → B g = b → 0 ≤ S g ∧ 0 < Z g % 16 := fun g hg h => by
  obtain ⟨-, -, -, e2, -, -, -, e6, -⟩ := (H.1 g hg).tl (by omega)
  exact ⟨e6, e2⟩
theorem DR.dt (H : DR K O Rk Z B S W P r) {f b : Nat} (hf : f < 10) (hb : b < 24) : dtK K Z B S f b = if B f = (b : Int) ∧ K b = 2 ∧ noT B f b = true then 0 else K b := by
  unfold dtK
  by_cases h : B f = -1
  · rw [if_pos h, if_neg (fun q => by omega)]
  · rw [if_neg h]
    unfold feK
    have h0 := ((H.DI f hf).2.1 h).1.1
    obtain ⟨b0, e0⟩ : ∃ b0 : Nat, B f = (b0 : Int) := ⟨(B f).toNat, by omega⟩
    rw [e0, Int.toNat_natCast]
    have h1 : tkA Z (rs B f (-1)) (rs S f (-1)) (b0 : Int) (-1) = 0 ↔ noT B f b0 = true := by
      rw [noT_iff]
      rw [tkA_0 (fun g hg hgb => by
        by_cases e3 : g = f
        · subst e3; rw [rs_eq] at hgb; omega
        · rw [rs_ne e3] at hgb ⊢
          have := H.S1 (b := (b0 : Int)) (by omega) g hg hgb
          exact ⟨this.1, fun _ => this.2⟩)]
      constructor
      · intro h g hg hgf
        have := h g hg (by omega)
        rw [rs_ne hgf] at this
        exact this
      · intro h g hg _
        by_cases e3 : g = f
        · subst e3; rw [rs_eq]; omega
        · rw [rs_ne e3]; exact h g hg e3
    by_cases e : b0 = b
    · subst e
      by_cases h2 : K b0 = 2 ∧ noT B f b0 = true
      · rw [if_pos ⟨h2.1, h1.mpr h2.2⟩, rs_eq, if_pos ⟨rfl, h2⟩]
      · rw [if_neg (fun q => h2 ⟨q.1, h1.mp q.2⟩), if_neg (fun q => h2 q.2)]
    · rw [if_neg (c := (b0 : Int) = (b : Int) ∧ K b = 2 ∧ noT B f b = true) (fun q => e (by omega))]
      split
      · exact rs_ne (fun q => e q.symm) 0
      · rfl
theorem DR.tkb (H : DR K O Rk Z B S W P r) {f b : Nat} (hf : f < 10) (hz : Z f ≠ -1) (hb : b < 24) : tkR r f (3 + b) = dtK K Z B S f b := by
  rw [H.dt hf hb, H.kind hb]
  have hti : ∀ b : Nat, tiF (tk0 r f) (b : Int) ≤ 0 ↔ noT B f b = true := by
    intro b
    rw [noT_iff]
    unfold tiF
    rw [sumB_0]
    constructor
    · intro h g hg hgf q
      have h1 := h g hg
      rw [hasT_congr (R2 := r) (fun w hw => by rw [tk0_ro (by omega), if_neg (by omega), if_neg (by omega), if_neg (by omega)]), (H.1 g hg).tail (by omega), decide_eq_true q] at h1
      cases h1
    · intro h g hg
      by_cases e : g = f
      · subst e
        refine hasT_no (Or.inr ?_)
        rw [tk0_ro (by decide), if_neg (by omega), if_neg (by omega), if_pos ⟨rfl, rfl⟩]
        omega
      · rw [hasT_congr (R2 := r) (fun w hw => by rw [tk0_ro (by omega), if_neg (by omega), if_neg (by omega), if_neg (by omega)]), (H.1 g hg).tail (by omega), decide_eq_false (h g hg e)]
  have hk0 : ∀ b : Nat, b < 24 → tk0 r f (3 + b) = r (3 + b) := fun b hb => by
    unfold tk0
    rw [rs_ne (by omega), rs_ne (by omega), rs_ne (by omega)]
  unfold tkR
  by_cases h : B f = -1
  · have ht : ¬ 0 < ro r f 1 % 16 := by
      rcases H.1 f hf with ⟨-, -, c, -⟩ | ⟨-, e1, -, -, -, -, -, h3⟩
      · omega
      · rcases h3 with ⟨-, c2, c3, c4, -⟩ | ⟨c1, -⟩
        · omega
        · omega
    rw [if_neg ht, hk0 b hb, if_neg (fun q => by omega)]
  · obtain ⟨-, e1, -, e2, e3, -, e5, -⟩ := (H.1 f hf).tl h
    obtain ⟨b0, e0⟩ : ∃ b0 : Nat, B f = (b0 : Int) := ⟨(B f).toNat, by omega⟩
    rw [if_pos (by omega), ← e3, e0, Int.toNat_natCast]
    unfold frR frC
    by_cases e : b0 = b
    · subst e
      rw [hk0 b0 hb]
      by_cases h2 : r (3 + b0) = 2 ∧ tiF (tk0 r f) (b0 : Int) ≤ 0
      · rw [if_pos (decide_eq_true h2), rs_eq, if_pos ⟨rfl, h2.1, (hti b0).mp h2.2⟩]
      · rw [if_neg (by rw [decide_eq_false h2]; decide), hk0 b0 hb, if_neg (fun q => h2 ⟨q.2.1, (hti b0).mpr q.2.2⟩)]
    · rw [if_neg (c := (b0 : Int) = (b : Int) ∧ r (3 + b) = 2 ∧ noT B f b = true) (fun q => e (by omega))]
      split
      · rw [rs_ne (by omega), hk0 b hb]
      · exact hk0 b hb
theorem DR.s1 (H : DR K O Rk Z B S W P r) {f : Nat} (hf : f < 10) (hz : Z f ≠ -1) : DR (dtK K Z B S f) O Rk (rs Z f (16 * (Z f / 16))) (rs B f (-1)) (rs S f (-1)) W P (tkR r f) := by
  have hI := H.RI
  have hro : ∀ g w, w < 18 → ro (tkR r f) g w = if g = f ∧ w = 4 then -1 else if g = f ∧ w = 3 then -1 else if g = f ∧ w = 1 then 16 * (ro r f 1 / 16) else ro r g w := fun g w hw => by rw [tkR_ro hI hf hw, tk0_ro hw]
  have hone : ∀ g w, w < 18 → g ≠ f → ro (tkR r f) g w = ro r g w := fun g w hw hg => by rw [hro g w hw, if_neg (by omega), if_neg (by omega), if_neg (by omega)]
  have hZ16 : ∀ g, rs Z f (16 * (Z f / 16)) g / 16 = Z g / 16 := fun g => by
    by_cases e : g = f
    · subst e; rw [rs_eq]; omega
    · rw [rs_ne e]
  refine ⟨fun g hg => ?_, fun b hb => ?_, fun g hg => ?_, ?_⟩
  · by_cases e : g = f
    · subst e
      rcases H.1 g hg with ⟨-, -, c, -⟩ | ⟨h0, e1, h1, e2, h2, e5, e4, h3⟩
      · exact absurd c hz
      · refine Or.inr ⟨?_, ?_, ?_, ?_, h2, ?_, ?_, Or.inr ?_⟩
        · rw [hro g 0 (by decide), if_neg (by omega), if_neg (by omega), if_neg (by omega)]; exact h0
        · rw [hro g 1 (by decide), if_neg (by omega), if_neg (by omega), if_pos ⟨rfl, rfl⟩, rs_eq, e1]
        · rw [rs_eq]; omega
        · rw [hro g 2 (by decide), if_neg (by omega), if_neg (by omega), if_neg (by omega)]; exact e2
        · rw [hro g 5 (by decide), if_neg (by omega), if_neg (by omega), if_neg (by omega)]; exact e5
        · rw [hro g 4 (by decide), if_pos ⟨rfl, rfl⟩]; decide
        · rw [rs_eq, rs_eq, rs_eq]; omega
    · have h := H.1 g hg
      unfold DRf at h ⊢
      rw [rs_ne e, rs_ne e, rs_ne e, hone g 0 (by decide) e, hone g 1 (by decide) e, hone g 2 (by decide) e, hone g 3 (by decide) e, hone g 4 (by decide) e, hone g 5 (by decide) e]
      rcases h with h | h
      · exact Or.inl ⟨h.1, fun w hw => by rw [hone g w hw e]; exact h.2.1 w hw, h.2.2⟩
      · exact Or.inr h
  · have hb1 := H.2.1 b hb
    obtain ⟨k1, k2, k3, k4, k5, k6, k7, k8⟩ := hb1
    have hd := H.dt hf hb
    have hlist : ∀ g k : Nat, g < 10 → (k : Int) < Z g / 16 → ro (tkR r f) g (6 + k) = ro r g (6 + k) := fun g k hg hk => by
      have := (H.DI g hg).1
      rw [hro g (6 + k) (by omega), if_neg (by omega), if_neg (by omega), if_neg (by omega)]
    refine ⟨(H.tkb hf hz hb).symm, ?_, ?_, ?_, ?_, ?_, ?_, ?_⟩
    · rw [hd]; split <;> omega
    · rcases k3 with h | ⟨g, k, hg, h1, h2, h3, h4⟩
      · exact Or.inl h
      · exact Or.inr ⟨g, k, hg, h1, h2, by rw [hZ16]; exact h3, by rw [hlist g k hg h3]; exact h4⟩
    · intro q
      rw [hd, if_neg (fun c => by have := k4 q; omega)]
      exact k4 q
    · intro q
      rw [hd] at q
      split at q
      · omega
      · exact k5 q
    · intro q
      rw [hd] at q
      split at q
      · omega
      · rename_i hc
        obtain ⟨g, hg, h1⟩ := k6 q
        by_cases e : g = f
        · subst e
          refine Decidable.byContradiction fun hno => hc ⟨h1, q, noT_iff.mpr fun g2 hg2 hgf hB => hno ⟨g2, hg2, by rw [rs_ne hgf]; exact hB⟩⟩
        · exact ⟨g, hg, by rw [rs_ne e]; exact h1⟩
    · intro g hg q
      by_cases e : g = f
      · subst e; rw [rs_eq] at q; omega
      · rw [rs_ne e] at q
        rw [hd, if_neg (fun c => noT_iff.mp c.2.2 g hg e q)]
        exact k7 g hg q
    · intro q g hg h
      rw [hd] at q
      split at q
      · omega
      · refine k8 q g hg ?_
        rcases h with h | h
        · exact Or.inl h
        · by_cases e : g = f
          · subst e; rw [rs_eq] at h; omega
          · rw [rs_ne e] at h; exact Or.inr h
  · intro k hk
    rw [hZ16] at hk
    obtain ⟨b, h1, h2, h3⟩ := H.2.2.1 g hg k hk
    have := (H.DI g hg).1
    exact ⟨b, h1, by rw [hro g (6 + k) (by omega), if_neg (by omega), if_neg (by omega), if_neg (by omega)]; exact h2, h3⟩
  · intro g g2 hg hg2 hne hB h1
    by_cases e : g = f
    · subst e; rw [rs_eq] at h1; exact absurd rfl h1
    · by_cases e2 : g2 = f
      · subst e2; rw [rs_eq] at hB; exact absurd hB h1
      · rw [rs_ne e] at hB h1 ⊢
        rw [rs_ne e2] at hB
        rw [rs_ne e, rs_ne e2, rs_ne e2]
        exact H.2.2.2 g g2 hg hg2 hne hB h1
-- a whole block taken
theorem lowF_at (h : lowF r ≠ -1) : ∃ b : Nat, b < 24 ∧ lowF r = (b : Int) ∧ r (3 + b) = 0 := by
  rcases firstN_cases (fun b => decide (r (3 + b) = 0)) 24 with ⟨h1, -⟩ | ⟨i, h1, h2, h3, -⟩
  · exact absurd h1 h
  · exact ⟨i, h1, h2, of_decide_eq_true h3⟩
theorem DR.s2 (H : DR K O Rk Z B S W P r) {f : Nat} (hf : f < 10) (hz : Z f ≠ -1) (h16 : Z f % 16 = 0) (h200 : Z f + 16 ≤ 200) (hw : W f = 0) (hl : lowF r ≠ -1) :
    DR (tawK K) (tawO K O (f : Int)) (tawO K Rk (Z f / 16)) (rs Z f (Z f + 16)) B S W P (twS r f) ∧ cntK (twS r f) 0 = cntK r 0 - 1 := by
  obtain ⟨b0, hb0, hlo, hk0⟩ := lowF_at hl
  rcases H.1 f hf with ⟨-, -, c, -⟩ | ⟨h0, e1, h1, e2, h2, e5, e4, h3⟩
  · exact absurd c hz
  have hlf : lfN K = (b0 : Int) := by rw [H.lf]; exact hlo
  have hK : tawK K = rs K b0 1 := by unfold tawK; rw [hlf, if_neg (by omega), Int.toNat_natCast]
  have hO : ∀ x, tawO K O x = rs O b0 x := fun x => by unfold tawO; rw [hlf, if_neg (by omega), Int.toNat_natCast]
  have hR : ∀ x, tawO K Rk x = rs Rk b0 x := fun x => by unfold tawO; rw [hlf, if_neg (by omega), Int.toNat_natCast]
  rw [hK, hO, hR]
  have hz1 : 0 ≤ ro r f 1 ∧ ro r f 1 + 16 ≤ 200 := by omega
  have hro : ∀ g w, w < 18 → ro (twS r f) g w = if g = f ∧ w = 1 then ro r f 1 + 16 else if g = f ∧ w = 6 + (ro r f 1 / 16).toNat then lowF r else ro r g w := fun g w hw => twS_ro hz1 hw
  have hbb : ∀ b, b < 24 → twS r f (3 + b) = rs r (3 + b0) 1 (3 + b) := fun b hb => by
    rw [twS_eq hz1, hlo, Int.toNat_natCast, rs_ne (by omega), rs_ne (by omega)]
  have hone : ∀ g w, w < 18 → g ≠ f → ro (twS r f) g w = ro r g w := fun g w hw hg => by rw [hro g w hw, if_neg (by omega), if_neg (by omega)]
  have hsm : ∀ w, w < 6 → w ≠ 1 → ro (twS r f) f w = ro r f w := fun w hw hw1 => by rw [hro f w (by omega), if_neg (by omega), if_neg (by omega)]
  have hB0 := H.2.1 b0 hb0
  have hKb0 : K b0 = 0 := by rw [H.kind hb0]; exact hk0
  have hO0 : O b0 = -1 := by
    by_cases q : O b0 = -1
    · exact q
    · have := hB0.2.2.2.1 q
      omega
  have hnt : ∀ g, g < 10 → B g ≠ (b0 : Int) := fun g hg => H.no2 hb0 (Or.inl hKb0) hg
  refine ⟨⟨fun g hg => ?_, fun b hb => ?_, fun g hg => ?_, ?_⟩, ?_⟩
  · by_cases e : g = f
    · subst e
      refine Or.inr ⟨?_, ?_, ?_, ?_, h2, ?_, ?_, Or.inr ?_⟩
      · rw [hsm 0 (by decide) (by decide)]; exact h0
      · rw [hro g 1 (by decide), if_pos ⟨rfl, rfl⟩, rs_eq, e1]
      · rw [rs_eq]; omega
      · rw [hsm 2 (by decide) (by decide)]; exact e2
      · rw [hsm 5 (by decide) (by decide)]; exact e5
      · rw [hsm 4 (by decide) (by decide)]; exact e4
      · rw [rs_eq]
        rcases h3 with h3 | h3
        · omega
        · exact ⟨by omega, h3.2⟩
    · have h := H.1 g hg
      unfold DRf at h ⊢
      rw [rs_ne e, hone g 0 (by decide) e, hone g 1 (by decide) e, hone g 2 (by decide) e, hone g 3 (by decide) e, hone g 4 (by decide) e, hone g 5 (by decide) e]
      rcases h with h | h
      · exact Or.inl ⟨h.1, fun w hw => by rw [hone g w hw e]; exact h.2.1 w hw, h.2.2⟩
      · exact Or.inr h
  · by_cases eb : b = b0
    · subst eb
      refine ⟨by rw [rs_eq, hbb b hb, rs_eq], by rw [rs_eq]; omega, Or.inr ⟨f, (Z f / 16).toNat, hf, rs_eq _ _ _, by rw [rs_eq]; omega, by rw [rs_eq]; omega, ?_⟩, fun _ => by rw [rs_eq]; omega, fun _ => by rw [rs_eq]; omega, fun q => ?_, fun g hg q => ?_, fun q => ?_⟩
      · rw [hro f (6 + (Z f / 16).toNat) (by omega), if_neg (by omega), if_pos ⟨rfl, by rw [e1]⟩, hlo]
      · rw [rs_eq] at q; omega
      · exact absurd q (hnt g hg)
      · rw [rs_eq] at q; omega
    · obtain ⟨k1, k2, k3, k4, k5, k6, k7, k8⟩ := H.2.1 b hb
      refine ⟨by rw [rs_ne eb, hbb b hb, rs_ne (j := 3 + b) (i := 3 + b0) (fun q => eb (Nat.add_left_cancel q))]; exact k1, by rw [rs_ne eb]; exact k2, ?_, by rw [rs_ne eb, rs_ne eb]; exact k4, by rw [rs_ne eb, rs_ne eb]; exact k5, by rw [rs_ne eb]; exact k6, by rw [rs_ne eb]; exact k7, by rw [rs_ne eb, rs_ne eb]; exact k8⟩
      rw [rs_ne eb, rs_ne eb]
      rcases k3 with h | ⟨g, k, hg, q1, q2, q3, q4⟩
      · exact Or.inl h
      · refine Or.inr ⟨g, k, hg, q1, q2, ?_, ?_⟩
        · by_cases e : g = f
          · subst e; rw [rs_eq]; omega
          · rw [rs_ne e]; exact q3
        · have := (H.DI g hg).1
          rw [hro g (6 + k) (by omega), if_neg (by omega), if_neg (by
            intro q
            have : g = f := q.1
            subst this
            omega)]
          exact q4
  · intro k hk
    by_cases e : g = f
    · subst e
      rw [rs_eq] at hk
      by_cases ek : k = (Z g / 16).toNat
      · refine ⟨b0, hb0, ?_, rs_eq _ _ _, by rw [rs_eq]; omega⟩
        rw [hro g (6 + k) (by omega), if_neg (by omega), if_pos ⟨rfl, by rw [ek, e1]⟩, hlo]
      · obtain ⟨b, q1, q2, q3, q4⟩ := H.2.2.1 g hg k (by omega)
        have hne : b ≠ b0 := fun q => by subst q; omega
        exact ⟨b, q1, by rw [hro g (6 + k) (by omega), if_neg (by omega), if_neg (by omega)]; exact q2, by rw [rs_ne hne]; exact q3, by rw [rs_ne hne]; exact q4⟩
    · rw [rs_ne e] at hk
      obtain ⟨b, q1, q2, q3, q4⟩ := H.2.2.1 g hg k hk
      have hne : b ≠ b0 := fun q => by subst q; omega
      have := (H.DI g hg).1
      exact ⟨b, q1, by rw [hone g (6 + k) (by omega) e]; exact q2, by rw [rs_ne hne]; exact q3, by rw [rs_ne hne]; exact q4⟩
  · intro g g2 hg hg2 hne hB hB1
    have h := H.2.2.2 g g2 hg hg2 hne hB hB1
    have hm : ∀ g, rs Z f (Z f + 16) g % 16 = Z g % 16 := fun g => by
      by_cases e : g = f
      · subst e; rw [rs_eq]; omega
      · rw [rs_ne e]
    rw [hm, hm]
    exact h
  · unfold cntK
    have hs : ∀ n, n ≤ 24 → sumN (fun b => Bi (decide (twS r f (3 + b) = 0))) n = sumN (fun b => Bi (decide (r (3 + b) = 0))) n - (if b0 < n then 1 else 0) := by
      intro n
      induction n with
      | zero => intro _; rfl
      | succ n ih =>
        intro hn
        show sumN _ n + Bi (decide (twS r f (3 + n) = 0)) = sumN _ n + Bi (decide (r (3 + n) = 0)) - _
        rw [ih (by omega), hbb n (by omega)]
        by_cases e : n = b0
        · subst e
          rw [rs_eq, hk0, if_neg (Nat.lt_irrefl n), if_pos (Nat.lt_succ_self n)]
          show _ - 0 + 0 = _ + 1 - 1
          omega
        · rw [rs_ne (by omega)]
          by_cases q : b0 < n
          · rw [if_pos q, if_pos (by omega)]; omega
          · rw [if_neg q, if_neg (by omega)]; omega
    rw [hs 24 (Nat.le_refl _), if_pos hb0]
end REL
