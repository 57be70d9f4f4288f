/-! what holds before each step of the law -/
/-- a slot: both sides hold nothing, or the same state -/
def SL (N : Nat) (T : Ty) (v : Ct) (c : Int) (x : Nat) : Prop := (v 66 x = -1 ∧ v 89 x = 0) ∨ (v 89 x ≠ 0 ∧ ∃ g : Nat, v 66 x = (g : Int) ∧ 96 ≤ g ∧ dsk T g ∧ g + 9 ≤ N ∧ DV v g (fun z => v 87 (207 * x + z)) c)
/-- the text: both sides hold the same characters -/
def TX (v : Ct) : Prop := ∃ n : Nat, v 67 1 = (n : Int) ∧ v 84 7 = (n : Int) ∧ n ≤ 60 ∧ v 68 = v 90
/-- the saved states -/
def HS (v : Ct) (c : Int) : Prop := ∃ s : Nat, HVr v (v 86) s c ∧ v 84 5 = (s : Int)
def AP (v : Ct) : Prop := ∀ g h : Nat, v 66 0 = (g : Int) → v 66 1 = (h : Int) → g + 9 ≤ h ∨ h + 9 ≤ g
def LI (N : Nat) (T : Ty) (v : Ct) (c : Int) : Prop := TT T ∧ 96 ≤ N ∧ DV v 1 (v 85) c ∧ HS v c ∧ SL N T v c 0 ∧ SL N T v c 1 ∧ AP v ∧ TX v ∧ HOK (v 91)
theorem SL.keep {N N2 : Nat} {T T2 : Ty} {v v2 : Ct} {c c2 : Int} {x : Nat} (h : SL N T v c x) (hN : N ≤ N2) (hc : c ≤ c2) (hd : ∀ g, dsk T g → g + 9 ≤ N → dsk T2 g) (h66 : v2 66 x = v 66 x) (h89 : v2 89 x = v 89 x) (h87 : ∀ z, z < 207 → v2 87 (207 * x + z) = v 87 (207 * x + z)) (hv : ∀ a, 96 ≤ a → a < N → v2 a = v a) : SL N2 T2 v2 c2 x := by
  unfold SL
  rw [h66, h89]
  rcases h with h | ⟨h1, g, h2, h3, h4, h5, h6⟩
  · exact Or.inl h
  · exact Or.inr ⟨h1, g, h2, h3, hd g h4 h5, by omega, (h6.same (fun k hk => hv _ (by omega) (by omega)) (fun j hj => h87 j hj)).mono hc⟩
theorem AP.keep {v v2 : Ct} (h : AP v) (h66 : ∀ x, x < 2 → v2 66 x = v 66 x) : AP v2 := fun g k h1 h2 => h g k (by rw [← h66 0 (by decide)]; exact h1) (by rw [← h66 1 (by decide)]; exact h2)
theorem TX.keep {v v2 : Ct} (h : TX v) (h1 : v2 67 1 = v 67 1) (h2 : v2 84 7 = v 84 7) (h3 : v2 68 = v 68) (h4 : v2 90 = v 90) : TX v2 := by
  obtain ⟨n, e1, e2, e3, e4⟩ := h
  exact ⟨n, h1.trans e1, h2.trans e2, e3, by rw [h3, h4]; exact e4⟩
/-- a step that leaves slots and text alone -/
theorem LI.step {N N2 : Nat} {T : Ty} {v v2 : Ct} {c c2 : Int} (h : LI N T v c) (hN : N ≤ N2) (hc : c ≤ c2) (hV : DV v2 1 (v2 85) c2) (hH : HS v2 c2) (h66 : v2 66 = v 66) (h89 : v2 89 = v 89) (h87 : v2 87 = v 87) (hv : ∀ a, 96 ≤ a → a < N → v2 a = v a) (h67 : v2 67 1 = v 67 1) (h84 : v2 84 7 = v 84 7) (h68 : v2 68 = v 68) (h90 : v2 90 = v 90) (h91 : HOK (v2 91)) : LI N2 T v2 c2 := by
  obtain ⟨i1, i2, i3, i4, i5, i6, i7, i8, i9⟩ := h
  exact ⟨i1, by omega, hV, hH, i5.keep hN hc (fun g q _ => q) (by rw [h66]) (by rw [h89]) (fun z _ => by rw [h87]) hv, i6.keep hN hc (fun g q _ => q) (by rw [h66]) (by rw [h89]) (fun z _ => by rw [h87]) hv, i7.keep (fun x _ => by rw [h66]), i8.keep h67 h84 h68 h90, h91⟩
theorem sa_self6 (v : Ct) : v = sa (sa (sa (sa (sa (sa v 86 (v 86)) 84 (v 84)) 94 (v 94)) 93 (v 93)) 88 (v 88)) 85 (v 85) := by
  rw [← sa_self v 86, ← sa_self v 84, ← sa_self v 94, ← sa_self v 93, ← sa_self v 88, ← sa_self v 85]
