/-! answers of the two sides that are the same -/
theorem ctF_eq {v : Ct} {s : Nat} (hs : v 84 5 = (s : Int)) {w : Nat} (hw : w < 12) : ctF v w = ctX (v 85) s w := by
  rcases (show w = 0 ∨ w = 1 ∨ w = 2 ∨ w = 3 ∨ w = 4 ∨ w = 5 ∨ w = 6 ∨ w = 7 ∨ w = 8 ∨ w = 9 ∨ w = 10 ∨ w = 11 by omega) with rfl | rfl | rfl | rfl | rfl | rfl | rfl | rfl | rfl | rfl | rfl | rfl
  all_goals first | rfl | exact hs
theorem hsN_cg {h : Int} {g g2 : Nat → Int} : ∀ n, (∀ i, i < n → g i = g2 i) → hsN h g n = hsN h g2 n := by
  intro n
  induction n with
  | zero => intro _; rfl
  | succ n ih =>
    intro hg
    show 31 * hsN h g n + wr (g n) = 31 * hsN h g2 n + wr (g2 n)
    rw [ih (fun i hi => hg i (by omega)), hg n (by omega)]
theorem hhN_cg {h : Int} {g g2 : Nat → Int} : ∀ n, (∀ i, i < n → g i = g2 i) → hhN h g n = hhN h g2 n := by
  intro n
  induction n with
  | zero => intro _; rfl
  | succ n ih =>
    intro hg
    show 31 * hhN h g n + g n = 31 * hhN h g2 n + g2 n
    rw [ih (fun i hi => hg i (by omega)), hg n (by omega)]
/-- the digests are the same where counts, row, slots and text are -/
theorem dgV_cg {c c2 R hs bf bf2 : Nat → Int} {n : Nat} (hc : ∀ w, w < 12 → c w = c2 w) (hb : ∀ q, q < n → bf q = bf2 q) : dgV c R hs bf n = dgV c2 R hs bf2 n := by
  unfold dgV
  rw [hsN_cg 12 hc, hhN_cg n hb]
theorem DR.exro {K O Rk Z B S W P r : Nat → Int} (H : DR K O Rk Z B S W P r) {f : Nat} (hf : f < 10) : Z f ≠ -1 ↔ ro r f 0 = 1 := ⟨fun q => H.zf2 hf q, fun q => H.zf hf q⟩
theorem DR.exf {K O Rk Z B S W P r : Nat → Int} (H : DR K O Rk Z B S W P r) (f : Int) : exF Z f = decide (0 ≤ f ∧ f ≤ 9 ∧ ro r f.toNat 0 = 1) := by
  unfold exF
  by_cases h : 0 ≤ f ∧ f ≤ 9
  · rw [decide_eq_true h, Bool.true_and]
    have := H.exro (f := f.toNat) (by omega)
    by_cases hz : Z f.toNat ≠ -1
    · rw [decide_eq_true hz, decide_eq_true ⟨h.1, h.2, this.mp hz⟩]
    · rw [decide_eq_false hz, decide_eq_false (fun q => hz (this.mpr q.2.2))]
  · rw [decide_eq_false h, Bool.false_and, decide_eq_false (fun q => h ⟨q.1, q.2.1⟩)]
