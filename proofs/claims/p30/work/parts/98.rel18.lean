theorem sum01 {Z : Nat → Int} : ∀ n : Nat, sumN (fun f => if Z f = -1 then (0 : Int) else 1) n ≤ n ∧ (sumN (fun f => if Z f = -1 then (0 : Int) else 1) n = n ↔ ∀ f, f < n → Z f ≠ -1) := by
  intro n
  induction n with
  | zero => exact ⟨Int.le_refl _, fun _ f hf => absurd hf (Nat.not_lt_zero f), fun _ => rfl⟩
  | succ n ih =>
    obtain ⟨h1, h2⟩ := ih
    have e : sumN (fun f => if Z f = -1 then (0 : Int) else 1) (n + 1) = sumN (fun f => if Z f = -1 then (0 : Int) else 1) n + (if Z n = -1 then (0 : Int) else 1) := rfl
    rw [e]
    by_cases h : Z n = -1
    · rw [if_pos h]
      refine ⟨by omega, fun q => by omega, fun q => absurd h (q n (by omega))⟩
    · rw [if_neg h]
      refine ⟨by omega, fun q f hf => ?_, fun q => ?_⟩
      · by_cases e2 : f = n
        · rw [e2]; exact h
        · exact h2.mp (by omega) f (by omega)
      · have := h2.mpr (fun f hf => q f (by omega))
        omega
theorem lastN_at {q : Nat → Bool} (h0 : q 0 = true) : ∀ n, q (lastN q n) = true ∧ lastN q n ≤ n ∧ ∀ j, lastN q n < j → j ≤ n → q j = false := by
  intro n
  induction n with
  | zero => exact ⟨h0, Nat.le_refl _, fun j h1 h2 => absurd h1 (by have : lastN q 0 = 0 := rfl; omega)⟩
  | succ n ih =>
    obtain ⟨h1, h2, h3⟩ := ih
    cases h : q (n + 1) with
    | true =>
      rw [lastN_t h]
      exact ⟨h, Nat.le_refl _, fun j q1 q2 => by omega⟩
    | false =>
      rw [lastN_f (Nat.succ_pos n) h]
      refine ⟨h1, Nat.le_succ_of_le h2, fun j q1 q2 => ?_⟩
      by_cases e : j = n + 1
      · rw [e]; exact h
      · exact h3 j q1 (by omega)
theorem first_last {q : Nat → Bool} (h0 : q 0 = true) (n : Nat) : firstN (fun i => q (n - i)) (n + 1) = ((n - lastN q n : Nat) : Int) := by
  obtain ⟨h1, h2, h3⟩ := lastN_at h0 n
  refine firstN_at (p := fun i => q (n - i)) (fun j hj => h3 (n - j) (by omega) (by omega)) ?_ (by omega)
  show q (n - (n - lastN q n)) = true
  rw [show n - (n - lastN q n) = lastN q n by omega]
  exact h1
section REL
variable {K O Rk Z B S W P r : Nat → Int}
theorem DR.lnf (H : DR K O Rk Z B S W P r) : lnN Z = -1 ↔ filF r = 10 := by
  rw [← H.fil]
  have h := (sum01 (Z := Z) 10).2
  unfold lnN
  rcases firstN_cases (fun f => decide (Z f = -1)) 10 with ⟨h1, h2⟩ | ⟨i, hi, h1, h2, -⟩
  · rw [h1]
    exact ⟨fun _ => h.mpr (fun f hf => of_decide_eq_false (h2 f hf)), fun _ => rfl⟩
  · rw [h1]
    exact ⟨fun q => by omega, fun q => absurd (of_decide_eq_true h2) (h.mp q i hi)⟩
theorem DR.hrc (H : DR K O Rk Z B S W P r) (hl : lnN Z ≠ -1) (s : Nat) : hrB K Z B S (s : Int) = ccF r s := by
  obtain ⟨e1, e2⟩ := H.ie0
  unfold hrB ccF ieB
  rw [decide_eq_true hl, Bool.true_and, e1, e2]
  by_cases h0 : s % 16 = 0
  · by_cases h : ((s / 16 : Nat) : Int) ≤ cntK r 0
    · rw [decide_eq_true (by omega), decide_eq_true ⟨h, Or.inl h0⟩]
    · rw [decide_eq_false (by omega), decide_eq_false (fun q => h q.1)]
  · have hg := gapF_mlg (r := r) (t := ((s % 16 : Nat) : Int)) (by omega)
    by_cases h : ((s / 16 : Nat) : Int) ≤ cntK r 0 ∧ (((s / 16 : Nat) : Int) < cntK r 0 ∨ gapF r ((s % 16 : Nat) : Int) ≠ -1)
    · rw [decide_eq_true (p := ((s / 16 : Nat) : Int) ≤ cntK r 0 ∧ _) ⟨h.1, Or.inr h.2⟩]
      rcases h.2 with q | q
      · rw [decide_eq_true (by omega)]
      · have := hg.mp q
        rw [decide_eq_true (by omega)]
    · rw [decide_eq_false (p := ((s / 16 : Nat) : Int) ≤ cntK r 0 ∧ _) (fun q => h ⟨q.1, q.2.resolve_left h0⟩)]
      refine decide_eq_false (fun q => h ?_)
      rcases q with q | ⟨q1, q2⟩
      · exact ⟨by omega, Or.inl (by omega)⟩
      · exact ⟨by omega, Or.inr (hg.mpr (by omega))⟩
theorem DR.gr (H : DR K O Rk Z B S W P r) : gsV K Z B S = grF r := by
  unfold gsV grF
  have hf := H.lnf
  by_cases hl : lnN Z = -1
  · rw [if_pos (hf.mp hl), firstN_none (fun i hi => by unfold hrB; rw [decide_eq_false (fun q => q hl)]; rfl), if_pos rfl]
  · rw [if_neg (fun q => hl (hf.mpr q))]
    have h0 : ccF r 0 = true := decide_eq_true ⟨by have := (cntK_bd r 0).1; exact this, Or.inl rfl⟩
    have he : firstN (fun i => hrB K Z B S (200 - (i : Int))) 201 = ((200 - lastN (ccF r) 200 : Nat) : Int) := by
      rw [← first_last h0 200]
      exact firstN_congr 201 (fun i hi => by
        show hrB K Z B S (200 - (i : Int)) = ccF r (200 - i)
        rw [← H.hrc hl, show ((200 - i : Nat) : Int) = 200 - (i : Int) by omega])
    have hle := (lastN_at h0 200).2.1
    rw [he, if_neg (by omega)]
    omega
theorem cnt12 (r : Nat → Int) : ∀ n : Nat, sumN (fun b => Bi (decide (r (3 + b) = 1))) n + sumN (fun b => Bi (decide (r (3 + b) = 2))) n ≤ n := by
  intro n
  induction n with
  | zero => exact Int.le_refl _
  | succ n ih =>
    show sumN (fun b => Bi (decide (r (3 + b) = 1))) n + Bi (decide (r (3 + n) = 1)) + (sumN (fun b => Bi (decide (r (3 + b) = 2))) n + Bi (decide (r (3 + n) = 2))) ≤ ((n + 1 : Nat) : Int)
    by_cases h : r (3 + n) = 1
    · rw [decide_eq_true h, decide_eq_false (show ¬ r (3 + n) = 2 by omega), show Bi true = 1 from rfl, show Bi false = 0 from rfl]
      omega
    · have := Bi_bd (decide (r (3 + n) = 2))
      rw [decide_eq_false h, show Bi false = 0 from rfl]
      omega
theorem DR.gcb (H : DR K O Rk Z B S W P r) : ∀ n : Nat, n ≤ 24 → 0 ≤ sumN (gcT r) n ∧ sumN (gcT r) n ≤ 16 * sumN (fun b => Bi (decide (r (3 + b) = 2))) n := by
  intro n
  induction n with
  | zero => intro _; exact ⟨Int.le_refl _, Int.le_refl _⟩
  | succ n ih =>
    intro hn
    obtain ⟨h1, h2⟩ := ih (by omega)
    show 0 ≤ sumN (gcT r) n + gcT r n ∧ sumN (gcT r) n + gcT r n ≤ 16 * (sumN (fun b => Bi (decide (r (3 + b) = 2))) n + Bi (decide (r (3 + n) = 2)))
    have ht := H.tc (b := n)
    have hp := pcN_le (tkA Z B S (n : Int) (-1)) 16
    have e : gcT r n = if r (3 + n) = 2 then tcF r n else 0 := rfl
    rw [e]
    by_cases h : r (3 + n) = 2
    · rw [if_pos h, decide_eq_true h, show Bi true = 1 from rfl]
      omega
    · rw [if_neg h, decide_eq_false h, show Bi false = 0 from rfl]
      omega
theorem DR.us (H : DR K O Rk Z B S W P r) : okD (usF r) = true ∧ boB (usF r) = true := by
  have h1 := (cntK_bd r 1).1
  have h2 := (cntK_bd r 2).1
  have h3 : cntK r 1 + cntK r 2 ≤ 24 := cnt12 r 24
  have h4 : 0 ≤ sumN (gcT r) 24 ∧ sumN (gcT r) 24 ≤ 16 * cntK r 2 := H.gcb 24 (Nat.le_refl _)
  unfold usF
  by_cases h0 : cntK r 1 + cntK r 2 = 0
  · rw [if_pos h0]
    exact ⟨one_ok, bo_one⟩
  · rw [if_neg h0]
    obtain ⟨g, hg⟩ : ∃ g : Nat, gcF r = (g : Int) := ⟨(gcF r).toNat, by unfold gcF; omega⟩
    obtain ⟨m, hm⟩ : ∃ m : Nat, cntK r 1 + cntK r 2 = (m : Int) := ⟨(cntK r 1 + cntK r 2).toNat, by omega⟩
    have e : FP.ddiv (FP.i2d (Int32.ofInt (gcF r))) (FP.i2d (Int32.ofInt (16 * (cntK r 1 + cntK r 2)))) = shD g m := by
      unfold shD
      rw [hg, hm, show ((16 * m : Nat) : Int) = 16 * (m : Int) by omega]
    rw [e]
    have hgm : g ≤ 16 * m := by unfold gcF at hg; omega
    exact ⟨shD_ok (by omega) (by omega) (by omega), boT_ok (by omega) (by omega) hgm⟩
end REL
theorem DR.zf2 {K O Rk Z B S W P r : Nat → Int} (H : DR K O Rk Z B S W P r) {f : Nat} (hf : f < 10) (hz : Z f ≠ -1) : ro r f 0 = 1 := by
  rcases (H.1 f hf).ex with ⟨q, -⟩ | ⟨-, q⟩
  · exact absurd q hz
  · exact q
