/-! .. a file with a tail has been placed -/
def PLk (r : Nat → Int) : Prop := ∀ g, g < 10 → ro r g 0 = 1 → 0 < ro r g 1 % 16 → 1 ≤ ro r g 5
section P30E
variable {K O Rk Z B S W P r K2 O2 Rk2 Z2 B2 S2 W2 P2 r2 : Nat → Int}
theorem DR.plk (H : DR K O Rk Z B S W P r) : PLk r ↔ ∀ g, g < 10 → Z g ≠ -1 → 0 < Z g % 16 → 1 ≤ P g := by
  have e : ∀ g, g < 10 → (ro r g 0 = 1 ↔ Z g ≠ -1) ∧ (Z g ≠ -1 → ro r g 1 = Z g ∧ ro r g 5 = P g) := fun g hg => by
    rcases H.1 g hg with ⟨a0, -, a2, -⟩ | ⟨a0, a1, a2, -, -, a5, -⟩
    · exact ⟨⟨fun q => by omega, fun q => absurd a2 q⟩, fun q => absurd a2 q⟩
    · exact ⟨⟨fun _ => by omega, fun _ => a0⟩, fun _ => ⟨a1.symm, a5.symm⟩⟩
  constructor
  · intro h g hg hz ht
    obtain ⟨e1, e2⟩ := e g hg
    obtain ⟨e3, e4⟩ := e2 hz
    have := h g hg (e1.mpr hz) (by omega)
    omega
  · intro h g hg hz ht
    obtain ⟨e1, e2⟩ := e g hg
    obtain ⟨e3, e4⟩ := e2 (e1.mp hz)
    have := h g hg (e1.mp hz) (by omega)
    omega
theorem PLk.rf {r : Nat → Int} (h : PLk r) : PLk (rfR r) := fun g hg a b => by
  have e : ∀ w, ro (rfR r) g w = ro r g w := fun w => rs_ne (by omega) _
  rw [e] at a b ⊢
  exact h g hg a b
/-- a file is built anew: with a tail, it has been placed -/
theorem DR.plk_rb {f z s : Nat} {rule : Int} (H2 : DR K2 O2 Rk2 Z2 (rbB f K Z B S O Rk rule z s) (rbS f K Z B S O Rk rule z s) W2 (rbQ f K Z B S O Rk P rule z s) r2) (hf : f < 10) (hZ : Z2 f = (s : Int)) (hp : 0 ≤ P f ∧ P f ≤ 1000000)
    (ho : ∀ g, g < 10 → g ≠ f → Z2 g ≠ -1 → 0 < Z2 g % 16 → 1 ≤ P g) : PLk r2 := by
  refine H2.plk.mpr (fun g hg hz ht => ?_)
  by_cases e : g = f
  · subst e
    by_cases hq : rbP g K Z B S O Rk rule z s = -1
    · have e2 : rbB g K Z B S O Rk rule z s g = -1 := by
        unfold rbB
        rw [if_pos hq, rs_eq]
      rcases H2.1 g hg with ⟨-, -, c, -⟩ | ⟨-, -, -, -, -, -, -, h3⟩
      · exact absurd c hz
      · rcases h3 with ⟨-, -, -, c, -⟩ | ⟨c, -⟩ <;> omega
    · have e4 : rbQ g K Z B S O Rk P rule z s g = wr (P g + 1) := by
        unfold rbQ
        rw [if_neg hq, rs_eq]
      rw [e4]
      unfold wr
      omega
  · have h1 := ho g hg e hz ht
    have e4 : rbQ f K Z B S O Rk P rule z s g = P g := by
      unfold rbQ
      split
      · rfl
      · exact rs_ne e _
    rw [e4]
    exact h1
theorem DR.plk_rs {f : Nat} {x : Int} (H : DR K O Rk Z B S W P r) (H2 : DR K2 O2 Rk2 (rs Z f x) B2 S2 W2 P r2) (h : PLk r) (hf : f < 10) (hx : 0 < x % 16 → Z f ≠ -1 ∧ 0 < Z f % 16) : PLk r2 := by
  refine H2.plk.mpr (fun g hg hz ht => ?_)
  have h0 := H.plk.mp h
  by_cases e : g = f
  · subst e
    rw [rs_eq] at hz ht
    obtain ⟨a, b⟩ := hx ht
    exact h0 g hg a b
  · rw [rs_ne e] at hz ht
    exact h0 g hg hz ht
theorem DR.growP (H : DR K O Rk Z B S W P r) (h : PLk r) (hP : ∀ g, g < 10 → 0 ≤ P g ∧ P g ≤ 1000000) {f n : Nat} (hf : f < 10) (hfi : ro r f 0 = 1) (hn : 1 ≤ n ∧ n ≤ 200) : PLk (opR r (gwO r f n)) := by
  have hz := H.zf hf hfi
  obtain ⟨z, hz2⟩ : ∃ z : Nat, Z f = (z : Int) := ⟨(Z f).toNat, by have := (H.wf hf hz).2.2.2.2; omega⟩
  obtain ⟨g1, g2, g3⟩ := H.grow hf hz2 hn
  have hb := goN_bd K Z B S W f (n : Int)
  rcases (show goN K Z B S W f (n : Int) = -1 ∨ goN K Z B S W f (n : Int) = 0 ∨ goN K Z B S W f (n : Int) = 1 by omega) with hg | hg | hg
  · rw [g1 hg]
    exact h.rf
  · obtain ⟨r3, k1, k2, k3⟩ := g2 hg
    rw [k1]
    exact H.plk_rs k2 h hf (fun _ => ⟨hz, ((H.goP hf hfi hn (by omega)).2 hg).1⟩)
  · obtain ⟨r3, k1, k2, k3⟩ := g3 hg
    rw [k1]
    refine k2.plk_rb hf (rs_eq _ _ _) (hP f hf) (fun g hg2 e a b => ?_)
    rw [rs_ne e] at a b
    exact H.plk.mp h g hg2 a b
theorem DR.cutP (H : DR K O Rk Z B S W P r) (h : PLk r) (hP : ∀ g, g < 10 → 0 ≤ P g ∧ P g ≤ 1000000) {f n : Nat} (hf : f < 10) (hfi : ro r f 0 = 1) (hn : 1 ≤ n ∧ n ≤ 200) : PLk (opR r (cuO r f n)) := by
  have hz := H.zf hf hfi
  obtain ⟨z, hz2⟩ : ∃ z : Nat, Z f = (z : Int) := ⟨(Z f).toNat, by have := (H.wf hf hz).2.2.2.2; omega⟩
  obtain ⟨g1, g2, g3, g4⟩ := H.cut hf hz2 hn.1
  by_cases c1 : W f = 1 ∨ z < n
  · rw [g1 c1]
    exact h.rf
  · have c2 : W f ≠ 1 := fun q => c1 (Or.inl q)
    have c3 : n ≤ z := by omega
    by_cases c4 : (z - n) / 16 = z / 16
    · by_cases c5 : (z - n) % 16 = 0
      · obtain ⟨r3, k1, k2, k3⟩ := g3 c2 c3 c4 c5
        rw [k1]
        exact H.plk_rs k2 h hf (fun q => by omega)
      · obtain ⟨r3, k1, k2, k3⟩ := g4 c2 c3 c4 c5
        rw [k1]
        exact H.plk_rs k2 h hf (fun q => ⟨hz, by omega⟩)
    · obtain ⟨r3, k1, k2, k3⟩ := g2 c2 c3 c4
      rw [k1]
      refine k2.plk_rb hf (rs_eq _ _ _) (hP f hf) (fun g hg2 e a b => ?_)
      rw [rs_ne e] at a b
      exact H.plk.mp h g hg2 a b
theorem DR.createP (H : DR K O Rk Z B S W P r) (h : PLk r) (hP : ∀ g, g < 10 → 0 ≤ P g ∧ P g ≤ 1000000) {s : Nat} (hs : s ≤ 200) : PLk (crR r s) := by
  obtain ⟨g1, g2⟩ := H.create hs
  unfold crR
  cases hh : hrB K Z B S (s : Int) with
  | false =>
    rw [g1 hh]
    exact h.rf
  | true =>
    obtain ⟨f, r3, k0, k1, k2, k3, k4, k5⟩ := g2 hh
    rw [k3]
    refine k4.plk_rb k0 (rs_eq _ _ _) (hP f k0) (fun g hg2 e a b => ?_)
    rw [rs_ne e, rs_ne e] at a b
    exact H.plk.mp h g hg2 a b
theorem DR.delP (H : DR K O Rk Z B S W P r) (h : PLk r) {f : Nat} (hf : f < 10) (hfi : ro r f 0 = 1) : PLk (dlR r f) := by
  obtain ⟨H2, -⟩ := H.del hf (H.zf hf hfi)
  refine H2.plk.mpr (fun g hg hz ht => ?_)
  by_cases e : g = f
  · subst e
    rw [rs_eq] at hz
    exact absurd rfl hz
  · rw [rs_ne e] at hz ht ⊢
    exact H.plk.mp h g hg hz ht
theorem DR.splP (H : DR K O Rk Z B S W P r) (h : PLk r) {b : Nat} (hb : b < 24) : PLk (rs (spN r (b : Int) 10) (3 + b) 3) := by
  obtain ⟨D1, D2, D3, D4⟩ := H.spl hb 10 (Nat.le_refl _)
  exact (D1.bad hb (fun g hg => D4 g hg)).plk.mpr (H.plk.mp h)
theorem PLk.set {r : Nat → Int} {x : Int} (h : PLk r) : PLk (rs r 2 x) := fun g hg a b => by
  have e : ∀ w, ro (rs r 2 x) g w = ro r g w := fun w => rs_ne (by omega) _
  rw [e] at a b ⊢
  exact h g hg a b
theorem DR.packP (H : DR K O Rk Z B S W P r) (h : PLk r) (hP : ∀ g, g < 10 → 0 ≤ P g ∧ P g ≤ 1000000) : PLk (pkRR r) := by
  have hL : ∀ q, q < (srL r 150).length → (fun q => ro r ((srL r 150).getD q 0) 1 % 16) q = ro r ((srL r 150).getD q 0) 1 % 16 := fun q _ => rfl
  have hE : ∀ q, q < (srL r 150).length → (fun q => (((srL r 150).getD q 0 : Nat) : Int)) q = (((srL r 150).getD q 0 : Nat) : Int) := fun q _ => rfl
  have hF : ∀ b, b < 24 → (fun b => if tpB K B W b = true then (0 : Int) else 16) b = if tpB K B W b = true then 0 else 16 := fun b _ => rfl
  cases ho : orB (pnN (fun q => ro r ((srL r 150).getD q 0) 1 % 16) (fun _ => 0) (fun _ => 0) (fun b => if tpB K B W b = true then (0 : Int) else 16)) (srL r 150).length with
  | true =>
    rw [pkRR_n ((H.pkf (fun _ => 0) (fun _ => 0) hL hF).1 ho)]
    exact h
  | false =>
    obtain ⟨-, r3, k2, k3, -⟩ := H.pack (fun _ => 0) (fun _ => 0) hL hE hF rfl ho
    rw [pkRR_s k2]
    refine k3.plk.mpr (fun g hg hz ht => ?_)
    have h1 := H.plk.mp h g hg hz ht
    have h2 := hP g hg
    rcases (coP_or (NB := (pnS (fun q => ro r ((srL r 150).getD q 0) 1 % 16) (fun _ => 0) (fun _ => 0) (fun b => if tpB K B W b = true then (0 : Int) else 16) (srL r 150).length).1) (NS := (pnS (fun q => ro r ((srL r 150).getD q 0) 1 % 16) (fun _ => 0) (fun _ => 0) (fun b => if tpB K B W b = true then (0 : Int) else 16) (srL r 150).length).2.1) (P := P) (S := S) (B := B) (K := K) (Nat.le_refl _) hE _ (Nat.le_refl _)).2 g with e | e
    · rw [e]
      exact h1
    · rw [e]
      unfold wr
      omega
end P30E
