theorem DI_drop {Z B S W : Nat → Int} (h : DI Z B S W) (f : Nat) : DI Z (rs B f (-1)) (rs S f (-1)) W := by
  intro g hg
  have h1 := h g hg
  by_cases e : g = f
  · subst e
    rw [rs_eq, rs_eq]
    exact ⟨h1.1, fun q => absurd rfl q, h1.2.2⟩
  · rw [rs_ne e, rs_ne e]
    exact h1
theorem DI_put {Z B S W : Nat → Int} (h : DI Z B S W) {f b s : Nat} (hz : 0 ≤ Z f) (hb : b < 24) (hs : (s : Int) + Z f % 16 ≤ 16) : DI Z (rs B f (b : Int)) (rs S f (s : Int)) W := by
  intro g hg
  have h1 := h g hg
  by_cases e : g = f
  · subst e
    rw [rs_eq, rs_eq]
    exact ⟨h1.1, fun _ => ⟨by omega, hz, by omega, hs⟩, h1.2.2⟩
  · rw [rs_ne e, rs_ne e]
    exact h1
theorem DI_size {Z B S W : Nat → Int} (h : DI Z B S W) {f : Nat} {z : Int} (hz : 0 ≤ z ∧ z ≤ 200) (hb : B f = -1 ∨ S f + z % 16 ≤ 16) : DI (rs Z f z) B S W := by
  intro g hg
  have h1 := h g hg
  by_cases e : g = f
  · subst e
    rw [rs_eq]
    refine ⟨by omega, fun q => ?_, h1.2.2⟩
    have h2 := h1.2.1 q
    refine ⟨h2.1, hz.1, h2.2.2.1, ?_⟩
    rcases hb with hb | hb
    · exact absurd hb q
    · exact hb
  · rw [rs_ne e]
    exact h1
theorem DI_gone {Z B S W : Nat → Int} (h : DI Z B S W) {f : Nat} (hb : B f = -1) : DI (rs Z f (-1)) B S (rs W f 0) := by
  intro g hg
  have h1 := h g hg
  by_cases e : g = f
  · subst e
    rw [rs_eq, rs_eq]
    exact ⟨by omega, fun q => absurd hb q, Or.inl rfl⟩
  · rw [rs_ne e, rs_ne e]
    exact h1
theorem DI_break {Z B S W : Nat → Int} (h : DI Z B S W) (f : Nat) : DI Z B S (rs W f 1) := by
  intro g hg
  have h1 := h g hg
  by_cases e : g = f
  · subst e
    rw [rs_eq]
    exact ⟨h1.1, h1.2.1, Or.inr rfl⟩
  · rw [rs_ne e]
    exact h1
def feV (K Z B S : Nat → Int) (b : Nat) : Int := if K b = 2 ∧ tkA Z B S b (-1) = 0 then 1 else 0
def feK (K Z B S : Nat → Int) (b : Nat) : Nat → Int := if K b = 2 ∧ tkA Z B S b (-1) = 0 then rs K b 0 else K
def dtV (K Z B S : Nat → Int) (f : Nat) : Int := if B f = -1 then 0 else feV K Z (rs B f (-1)) (rs S f (-1)) (B f).toNat
def dtK (K Z B S : Nat → Int) (f : Nat) : Nat → Int := if B f = -1 then K else feK K Z (rs B f (-1)) (rs S f (-1)) (B f).toNat
theorem feV_bd (K Z B S : Nat → Int) (b : Nat) : 0 ≤ feV K Z B S b ∧ feV K Z B S b ≤ 1 := by
  unfold feV
  split <;> decide
theorem dtV_bd (K Z B S : Nat → Int) (f : Nat) : 0 ≤ dtV K Z B S f ∧ dtV K Z B S f ≤ 1 := by
  unfold dtV
  split
  · decide
  · exact feV_bd _ _ _ _ _
def tawK (K : Nat → Int) : Nat → Int := if lfN K = -1 then K else rs K (lfN K).toNat 1
def tawO (K O : Nat → Int) (x : Int) : Nat → Int := if lfN K = -1 then O else rs O (lfN K).toNat x
/-- what goes of a file's whole blocks: the kinds, the owners, the ranks, how many are free now -/
def dwS2 (f lf : Int) (K O Rk : Nat → Int) : Nat → (Nat → Int) × ((Nat → Int) × ((Nat → Int) × Nat))
  | 0 => (K, O, Rk, 0)
  | b + 1 =>
    if (dwS2 f lf K O Rk b).2.1 b = f ∧ lf ≤ (dwS2 f lf K O Rk b).2.2.1 b then
      (if (dwS2 f lf K O Rk b).1 b = 1 then (rs (dwS2 f lf K O Rk b).1 b 0, rs (dwS2 f lf K O Rk b).2.1 b (-1), rs (dwS2 f lf K O Rk b).2.2.1 b 0, (dwS2 f lf K O Rk b).2.2.2 + 1)
       else ((dwS2 f lf K O Rk b).1, rs (dwS2 f lf K O Rk b).2.1 b (-1), rs (dwS2 f lf K O Rk b).2.2.1 b 0, (dwS2 f lf K O Rk b).2.2.2))
    else dwS2 f lf K O Rk b
theorem dwS2_bd (f lf : Int) (K O Rk : Nat → Int) : ∀ b, (dwS2 f lf K O Rk b).2.2.2 ≤ b := by
  intro b
  induction b with
  | zero => exact Nat.le_refl 0
  | succ b ih =>
    unfold dwS2
    split
    · split
      · exact Nat.succ_le_succ ih
      · exact Nat.le_succ_of_le ih
    · exact Nat.le_succ_of_le ih
/-- what a block that turns bad breaks -/
def tbS (O Z B W : Nat → Int) (b : Nat) : Nat → (Nat → Int) × Nat
  | 0 => (W, 0)
  | f + 1 => if hsB O Z B f b = true ∧ (tbS O Z B W b f).1 f = 0 then (rs (tbS O Z B W b f).1 f 1, (tbS O Z B W b f).2 + 1) else tbS O Z B W b f
theorem tbS_bd (O Z B W : Nat → Int) (b : Nat) : ∀ f, (tbS O Z B W b f).2 ≤ f := by
  intro f
  induction f with
  | zero => exact Nat.le_refl 0
  | succ f ih =>
    unfold tbS
    split
    · exact Nat.succ_le_succ ih
    · exact Nat.le_succ_of_le ih
