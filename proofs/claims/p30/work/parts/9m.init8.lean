theorem DR.empty {K O Rk Z B S W P r : Nat → Int} (hr : ∀ x, x < 207 → r x = 0) (h24 : ∀ q, q < 24 → K q = 0 ∧ O q = -1 ∧ Rk q = 0) (h10 : ∀ q, q < 10 → Z q = -1 ∧ B q = -1 ∧ S q = -1 ∧ W q = 0 ∧ P q = 0) : DR K O Rk Z B S W P r := by
  refine ⟨fun f hf => ?_, fun b hb => ?_, fun f hf k hk => ?_, fun f g hf hg _ _ hB => ?_⟩
  · obtain ⟨z1, z2, z3, z4, z5⟩ := h10 f hf
    have hro : ∀ w, w < 18 → ro r f w = 0 := fun w hw => hr _ (by omega)
    exact Or.inl ⟨hro 0 (by decide), hro, z1, z2, z3, z4, z5⟩
  · obtain ⟨z1, z2, z3⟩ := h24 b hb
    have hk := hr (3 + b) (by omega)
    refine ⟨by omega, Or.inl z1, Or.inl z2, fun q => absurd z2 q, fun q => by omega, fun q => by omega, fun f hf hB => ?_, fun q => by omega⟩
    have := (h10 f hf).2.1
    omega
  · have := (h10 f hf).1
    omega
  · exact absurd (h10 f hf).2.1 hB
theorem DV.empty {v : Ct} {a : Nat} {r : Nat → Int} (hr : ∀ x, x < 207 → r x = 0) (h0 : v a 8 = 0 ∧ v a 9 = 0 ∧ v a 10 = 0) (h24 : ∀ q, q < 24 → v (a + 1) q = 0 ∧ v (a + 2) q = -1 ∧ v (a + 3) q = 0) (h10 : ∀ q, q < 10 → v (a + 4) q = -1 ∧ v (a + 5) q = -1 ∧ v (a + 6) q = -1 ∧ v (a + 7) q = 0 ∧ v (a + 8) q = 0) : DV v a r 0 := by
  have e0 := hr 0 (by decide)
  have e1 := hr 1 (by decide)
  have e2 := hr 2 (by decide)
  refine ⟨DR.empty hr h24 h10, ?_⟩
  unfold CNT
  refine ⟨by omega, by omega, by omega, Or.inl e2, by omega, by omega, fun f hf => ?_⟩
  have := (h10 f hf).2.2.2.2
  omega
