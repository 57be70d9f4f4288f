/-- what carrying out a plan makes: placings, starts, blocks, kinds -/
def coI (E NB NS P S B K : Nat → Int) : Nat → (Nat → Int) × ((Nat → Int) × ((Nat → Int) × (Nat → Int)))
  | 0 => (P, S, B, K)
  | a + 1 =>
    (rs (coI E NB NS P S B K a).1 (E a).toNat (wr ((coI E NB NS P S B K a).1 (E a).toNat + 1)), rs (coI E NB NS P S B K a).2.1 (E a).toNat (NS a),
     rs (coI E NB NS P S B K a).2.2.1 (E a).toNat (NB a), rs (coI E NB NS P S B K a).2.2.2 (NB a).toNat 2)
def coOk (E NB NS Z : Nat → Int) (q : Nat) : Prop := (0 ≤ E q ∧ E q < 10) ∧ 0 ≤ Z (E q).toNat ∧ (0 ≤ NB q ∧ NB q < 24) ∧ 0 ≤ NS q ∧ NS q + Z (E q).toNat % 16 ≤ 16
theorem coI_DI {E NB NS P S B K Z W : Nat → Int} {n : Nat} (hD : DI Z B S W) (hO : ∀ q, q < n → coOk E NB NS Z q) : ∀ a, a ≤ n → DI Z (coI E NB NS P S B K a).2.2.1 (coI E NB NS P S B K a).2.1 W := by
  intro a
  induction a with
  | zero => intro _; exact hD
  | succ a ih =>
    intro ha
    obtain ⟨h1, h2, h3, h4, h5⟩ := hO a (by omega)
    have h6 := DI_put (f := (E a).toNat) (b := (NB a).toNat) (s := (NS a).toNat) (ih (by omega)) h2 (by omega) (by omega)
    rw [Int.toNat_of_nonneg h3.1, Int.toNat_of_nonneg h4] at h6
    exact h6
def feI (K Z B S : Nat → Int) : Nat → (Nat → Int)
  | 0 => K
  | b + 1 => feK (feI K Z B S b) Z B S b
theorem coI_s {E NB NS P S B K : Nat → Int} {a f b s : Nat} (hf : E a = (f : Int)) (hb : NB a = (b : Int)) (hs : NS a = (s : Int)) : coI E NB NS P S B K (a + 1) =
    (rs (coI E NB NS P S B K a).1 f (wr ((coI E NB NS P S B K a).1 f + 1)), rs (coI E NB NS P S B K a).2.1 f (s : Int), rs (coI E NB NS P S B K a).2.2.1 f (b : Int), rs (coI E NB NS P S B K a).2.2.2 b 2) := by
  have h : coI E NB NS P S B K (a + 1) = (rs (coI E NB NS P S B K a).1 (E a).toNat (wr ((coI E NB NS P S B K a).1 (E a).toNat + 1)), rs (coI E NB NS P S B K a).2.1 (E a).toNat (NS a), rs (coI E NB NS P S B K a).2.2.1 (E a).toNat (NB a), rs (coI E NB NS P S B K a).2.2.2 (NB a).toNat 2) := rfl
  rw [h, hf, hb, hs, Int.toNat_natCast, Int.toNat_natCast]
