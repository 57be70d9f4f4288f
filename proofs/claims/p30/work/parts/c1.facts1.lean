/-! what the property's law looks at: growing, cutting, told over the relation -/
theorem sumN_le {g g2 : Nat → Int} : ∀ n, (∀ i, i < n → g i ≤ g2 i) → sumN g n ≤ sumN g2 n := by
  intro n
  induction n with
  | zero => intro _; exact Int.le_refl _
  | succ n ih =>
    intro h
    have h1 := ih (fun i hi => h i (by omega))
    have h2 := h n (by omega)
    show sumN g n + g n ≤ sumN g2 n + g2 n
    omega
theorem sumN_add (g g2 : Nat → Int) : ∀ n, sumN (fun i => g i + g2 i) n = sumN g n + sumN g2 n := by
  intro n
  induction n with
  | zero => rfl
  | succ n ih =>
    show sumN (fun i => g i + g2 i) n + (g n + g2 n) = sumN g n + g n + (sumN g2 n + g2 n)
    rw [ih]
    omega
theorem Bi_le {p q : Bool} (h : p = true → q = true) : Bi p ≤ Bi q := by
  cases p with
  | false => exact (Bi_bd q).1
  | true => rw [h rfl]; exact Int.le_refl _
theorem cntK_rf (r : Nat → Int) (x : Int) : cntK (rfR r) x = cntK r x := sumN_congr 24 (fun b _ => by
  have e : rfR r (3 + b) = r (3 + b) := rs_ne (by omega) _
  rw [e])
theorem rfR_0 (r : Nat → Int) (h : 0 ≤ r 0 ∧ r 0 < 1000000) : rfR r 0 = r 0 + 1 := by
  have e : rfR r 0 = wr (r 0 + 1) := rs_eq _ _ _
  rw [e]
  unfold wr
  omega
section P30A
variable {K O Rk Z B S W P r K2 O2 Rk2 Z2 B2 S2 W2 P2 r2 : Nat → Int}
theorem DR.exI (H : DR K O Rk Z B S W P r) (H2 : DR K2 O2 Rk2 Z2 B2 S2 W2 P2 r2) (h : ∀ g, g < 10 → (Z2 g = -1 ↔ Z g = -1)) : ∀ g, g < 10 → ro r2 g 0 = ro r g 0 := fun g hg => by
  have h3 := h g hg
  rcases (H.1 g hg).ex with ⟨a1, a2⟩ | ⟨a1, a2⟩ <;> rcases (H2.1 g hg).ex with ⟨b1, b2⟩ | ⟨b1, b2⟩ <;> omega
theorem DR.pf (H : DR K O Rk Z B S W P r) {f : Nat} (hf : f < 10) (hfi : ro r f 0 = 1) : prF r f 0 = Z f ∧ prF r f 1 = Z f / 16 ∧ prF r f 2 = Z f % 16 ∧ prF r f 3 = B f ∧ prF r f 4 = S f ∧ prF r f 5 = W f ∧ prF r f 6 = P f := by
  have hz := H.zf hf hfi
  exact ⟨(H.fp hf hz (w := 0) (by decide)).symm, (H.fp hf hz (w := 1) (by decide)).symm, (H.fp hf hz (w := 2) (by decide)).symm, (H.fp hf hz (w := 3) (by decide)).symm, (H.fp hf hz (w := 4) (by decide)).symm, (H.fp hf hz (w := 5) (by decide)).symm, (H.fp hf hz (w := 6) (by decide)).symm⟩
theorem DR.tlB (H : DR K O Rk Z B S W P r) {f : Nat} (hf : f < 10) (hfi : ro r f 0 = 1) : (0 < Z f % 16 ∧ (0 ≤ B f ∧ B f < 24) ∧ 0 ≤ S f ∧ S f + Z f % 16 ≤ 16) ∨ (Z f % 16 = 0 ∧ B f = -1 ∧ S f = -1) := by
  rcases H.1 f hf with ⟨h0, -⟩ | ⟨-, -, -, -, -, -, -, h3⟩
  · omega
  · rcases h3 with ⟨a, -, -, b, c, d⟩ | h3
    · exact Or.inl ⟨a, b, c, d⟩
    · exact Or.inr h3
theorem DR.gow (H : DR K O Rk Z B S W P r) {f n : Nat} (hf : f < 10) (hfi : ro r f 0 = 1) (hn : 1 ≤ n ∧ n ≤ 200) (h : goN K Z B S W f (n : Int) = -1) : W f = 1 ∨ 200 < Z f + (n : Int) ∨ cntK r 0 < 13 := by
  have hz := H.zf hf hfi
  obtain ⟨-, -, -, -, z0, z200⟩ := H.wf hf hz
  obtain ⟨i1, i2⟩ := H.ie1 hf hz
  have hle : cntK r 0 ≤ cntK (tkR r f) 0 := sumN_le 24 (fun b hb => Bi_le (fun q => by
    have q2 := of_decide_eq_true q
    have hk := H.kind hb
    refine decide_eq_true ?_
    rw [H.tkb hf hz hb, H.dt hf hb]
    split
    · rfl
    · omega))
  unfold goN at h
  by_cases c1 : W f = 1 ∨ 200 < Z f + (n : Int)
  · rcases c1 with c1 | c1
    · exact Or.inl c1
    · exact Or.inr (Or.inl c1)
  rw [if_neg c1] at h
  by_cases c2 : (Z f + (n : Int)) / 16 - Z f / 16 = 0 ∧ (n : Int) ≤ ((cbN Z B S f : Nat) : Int)
  · rw [if_pos c2] at h
    omega
  rw [if_neg c2] at h
  obtain ⟨w, hw⟩ : ∃ w : Nat, (Z f + (n : Int)) / 16 - Z f / 16 = (w : Int) := ⟨((Z f + (n : Int)) / 16 - Z f / 16).toNat, by omega⟩
  obtain ⟨t, ht⟩ : ∃ t : Nat, (Z f + (n : Int)) % 16 = (t : Int) := ⟨((Z f + (n : Int)) % 16).toNat, by omega⟩
  rw [hw, ht, ieB_iff i1 i2] at h
  by_cases c3 : (w : Int) < cntK (tkR r f) 0 ∨ (cntK (tkR r f) 0 = (w : Int) ∧ (t : Int) ≤ ((mlg (tkR r f) : Nat) : Int))
  · rw [if_pos (decide_eq_true c3)] at h
    omega
  · right
    right
    have c4 : ¬ (w : Int) < cntK (tkR r f) 0 := fun q => c3 (Or.inl q)
    have c5 : ¬ 200 < Z f + (n : Int) := fun q => c1 (Or.inr q)
    omega
theorem DR.goP (H : DR K O Rk Z B S W P r) {f n : Nat} (hf : f < 10) (hfi : ro r f 0 = 1) (hn : 1 ≤ n ∧ n ≤ 200) (h : goN K Z B S W f (n : Int) ≠ -1) : W f = 0 ∧ (goN K Z B S W f (n : Int) = 0 → 0 < Z f % 16 ∧ Z f / 16 = (Z f + (n : Int)) / 16) := by
  have hz := H.zf hf hfi
  obtain ⟨-, -, -, w01, z0, z200⟩ := H.wf hf hz
  unfold goN at h ⊢
  by_cases c1 : W f = 1 ∨ 200 < Z f + (n : Int)
  · rw [if_pos c1] at h
    exact absurd rfl h
  refine ⟨by omega, fun h0 => ?_⟩
  rw [if_neg c1] at h0
  by_cases c2 : (Z f + (n : Int)) / 16 - Z f / 16 = 0 ∧ (n : Int) ≤ ((cbN Z B S f : Nat) : Int)
  · refine ⟨?_, by omega⟩
    rcases H.tlB hf hfi with h3 | h3
    · exact h3.1
    · have hc : cbN Z B S f = 0 := if_pos (Or.inr h3.2.1)
      omega
  · rw [if_neg c2] at h0
    split at h0 <;> omega
theorem DR.growF (H : DR K O Rk Z B S W P r) (h0 : 0 ≤ r 0 ∧ r 0 < 1000000) (hP : ∀ g, g < 10 → 0 ≤ P g ∧ P g ≤ 1000000) {f n : Nat} (hf : f < 10) (hfi : ro r f 0 = 1) (hn : 1 ≤ n ∧ n ≤ 200) :
    ∃ (t : Int) (R : Nat → Int), opV (gwO r f n) = t ∧ opR r (gwO r f n) = R ∧ (∀ g, g < 10 → ro R g 0 = ro r g 0) ∧
      ((t = -1 ∧ R 0 = r 0 + 1 ∧ (∀ w, w < 7 → prF R f w = prF r f w) ∧ (prF R f 5 = 1 ∨ 200 < prF r f 0 + (n : Int) ∨ cntK R 0 < 13)) ∨
       (t = 0 ∧ R 0 = r 0 ∧ prF R f 0 = prF r f 0 + (n : Int) ∧ prF R f 5 = 0 ∧ 0 < prF r f 0 % 16 ∧ prF r f 0 / 16 = (prF r f 0 + (n : Int)) / 16 ∧ prF R f 3 = prF r f 3 ∧ prF R f 4 = prF r f 4 ∧ prF R f 6 = prF r f 6) ∨
       (t = 1 ∧ R 0 = r 0 ∧ prF R f 0 = prF r f 0 + (n : Int) ∧ prF R f 5 = 0 ∧ prF R f 6 = prF r f 6 + (if (prF r f 0 + (n : Int)) % 16 = 0 then 0 else 1))) := by
  have hz := H.zf hf hfi
  obtain ⟨z, hz2⟩ : ∃ z : Nat, Z f = (z : Int) := ⟨(Z f).toNat, by have := (H.wf hf hz).2.2.2.2; omega⟩
  obtain ⟨g1, g2, g3⟩ := H.grow hf hz2 hn
  obtain ⟨p0, p1, p2, p3, p4, p5, p6⟩ := H.pf hf hfi
  have hb := goN_bd K Z B S W f (n : Int)
  rcases (show goN K Z B S W f (n : Int) = -1 ∨ goN K Z B S W f (n : Int) = 0 ∨ goN K Z B S W f (n : Int) = 1 by omega) with hg | hg | hg
  · have hw := H.gow hf hfi hn hg
    refine ⟨-1, rfR r, by rw [g1 hg]; rfl, by rw [g1 hg]; rfl, fun g _ => rs_ne (by omega) _, Or.inl ⟨rfl, rfR_0 r h0, fun w hw => ?_, ?_⟩⟩
    · have hro : ∀ w, ro (rfR r) f w = ro r f w := fun w => rs_ne (by omega) _
      unfold prF
      simp only [hro]
    · have e5 : prF (rfR r) f 5 = prF r f 5 := show rfR r (27 + 18 * f + 2) = r (27 + 18 * f + 2) from rs_ne (by omega) _
      rw [e5, p5, p0, cntK_rf]
      exact hw
  · obtain ⟨r3, k1, k2, k3⟩ := g2 hg
    obtain ⟨q1, q2⟩ := H.goP hf hfi hn (by omega)
    have hex := H.exI k2 (fun g hg => by
      by_cases e : g = f
      · subst e
        rw [rs_eq]
        omega
      · rw [rs_ne e])
    obtain ⟨t0, t1, t2, t3, t4, t5, t6⟩ := k2.pf hf (by rw [hex f hf]; exact hfi)
    rw [rs_eq] at t0
    refine ⟨0, r3, by rw [k1]; rfl, by rw [k1]; rfl, hex, Or.inr (Or.inl ⟨rfl, k3 0 (by decide), by rw [t0, p0, hz2]; omega, by rw [t5]; exact q1, by rw [p0]; exact (q2 hg).1, by rw [p0]; exact (q2 hg).2, by rw [t3, p3], by rw [t4, p4], by rw [t6, p6]⟩)⟩
  · obtain ⟨r3, k1, k2, k3⟩ := g3 hg
    obtain ⟨q1, q2⟩ := H.goP hf hfi hn (by omega)
    have hex := H.exI k2 (fun g hg => by
      by_cases e : g = f
      · subst e
        rw [rs_eq]
        omega
      · rw [rs_ne e])
    have hfi3 : ro r3 f 0 = 1 := by rw [hex f hf]; exact hfi
    obtain ⟨t0, t1, t2, t3, t4, t5, t6⟩ := k2.pf hf hfi3
    have htl := k2.tlB hf hfi3
    rw [rs_eq] at t0 htl
    have hPf := hP f hf
    refine ⟨1, r3, by rw [k1]; rfl, by rw [k1]; rfl, hex, Or.inr (Or.inr ⟨rfl, k3 0 (by decide), by rw [t0, p0, hz2]; omega, by rw [t5]; exact q1, ?_⟩)⟩
    rw [t6, p6, p0, hz2]
    by_cases hp : rbP f K Z B S O Rk (r 2) z (z + n) = -1
    · obtain ⟨-, e2, -, e4⟩ := rb_no (P := P) hp
      rw [e4]
      rw [e2, rs_eq] at htl
      rw [if_pos (by omega)]
      omega
    · have hm : ¬ ((z : Int) + (n : Int)) % 16 = 0 := fun q => hp (if_pos (by omega))
      have e4 : rbQ f K Z B S O Rk P (r 2) z (z + n) f = wr (P f + 1) := by
        unfold rbQ
        rw [if_neg hp, rs_eq]
      rw [e4, if_neg hm]
      unfold wr
      omega
theorem DR.cutF (H : DR K O Rk Z B S W P r) (h0 : 0 ≤ r 0 ∧ r 0 < 1000000) {f n : Nat} (hf : f < 10) (hfi : ro r f 0 = 1) (hn : 1 ≤ n ∧ n ≤ 200) :
    ∃ (t : Int) (R : Nat → Int), opV (cuO r f n) = t ∧ opR r (cuO r f n) = R ∧ (∀ g, g < 10 → ro R g 0 = ro r g 0) ∧
      (((prF r f 5 ≠ 0 ∨ prF r f 0 < (n : Int)) ∧ t = -1 ∧ R 0 = r 0 + 1 ∧ ∀ w, w < 7 → prF R f w = prF r f w) ∨
       (prF r f 5 = 0 ∧ (n : Int) ≤ prF r f 0 ∧ t = prF r f 0 - (n : Int) ∧ R 0 = r 0 ∧ prF R f 0 = prF r f 0 - (n : Int) ∧ ((prF r f 0 - (n : Int)) / 16 = prF r f 0 / 16 → 0 < (prF r f 0 - (n : Int)) % 16 → prF R f 3 = prF r f 3 ∧ prF R f 4 = prF r f 4))) := by
  have hz := H.zf hf hfi
  obtain ⟨-, -, -, w01, -, z200⟩ := H.wf hf hz
  obtain ⟨z, hz2⟩ : ∃ z : Nat, Z f = (z : Int) := ⟨(Z f).toNat, by have := (H.wf hf hz).2.2.2.2; omega⟩
  obtain ⟨g1, g2, g3, g4⟩ := H.cut hf hz2 hn.1
  obtain ⟨p0, p1, p2, p3, p4, p5, p6⟩ := H.pf hf hfi
  have hexi : ∀ {K2 O2 Rk2 B2 S2 P2 r3 : Nat → Int}, DR K2 O2 Rk2 (rs Z f ((z - n : Nat) : Int)) B2 S2 W P2 r3 → ∀ g, g < 10 → ro r3 g 0 = ro r g 0 := fun k2 => H.exI k2 (fun g hg => by
      by_cases e : g = f
      · subst e
        rw [rs_eq]
        omega
      · rw [rs_ne e])
  by_cases c1 : W f = 1 ∨ z < n
  · have hg := g1 c1
    refine ⟨-1, rfR r, by rw [hg]; rfl, by rw [hg]; rfl, fun g _ => rs_ne (by omega) _, Or.inl ⟨by rw [p5, p0, hz2]; omega, rfl, rfR_0 r h0, fun w hw => ?_⟩⟩
    have hro : ∀ w, ro (rfR r) f w = ro r f w := fun w => rs_ne (by omega) _
    unfold prF
    simp only [hro]
  · have c2 : W f ≠ 1 := fun q => c1 (Or.inl q)
    have c3 : n ≤ z := by omega
    by_cases c4 : (z - n) / 16 = z / 16
    · by_cases c5 : (z - n) % 16 = 0
      · obtain ⟨r3, k1, k2, k3⟩ := g3 c2 c3 c4 c5
        have hex := hexi k2
        obtain ⟨t0, -⟩ := k2.pf hf (by rw [hex f hf]; exact hfi)
        rw [rs_eq] at t0
        exact ⟨_, r3, rfl, by rw [k1]; rfl, hex, Or.inr ⟨by rw [p5]; omega, by rw [p0]; omega, by rw [k1, p0]; show ((z - n : Nat) : Int) = _; omega, k3 0 (by decide), by rw [t0, p0]; omega, fun _ h => by rw [p0] at h; omega⟩⟩
      · obtain ⟨r3, k1, k2, k3⟩ := g4 c2 c3 c4 c5
        have hex := hexi k2
        obtain ⟨t0, t1, t2, t3, t4, -⟩ := k2.pf hf (by rw [hex f hf]; exact hfi)
        rw [rs_eq] at t0
        exact ⟨_, r3, rfl, by rw [k1]; rfl, hex, Or.inr ⟨by rw [p5]; omega, by rw [p0]; omega, by rw [k1, p0]; show ((z - n : Nat) : Int) = _; omega, k3 0 (by decide), by rw [t0, p0]; omega, fun _ _ => ⟨by rw [t3, p3], by rw [t4, p4]⟩⟩⟩
    · obtain ⟨r3, k1, k2, k3⟩ := g2 c2 c3 c4
      have hex := hexi k2
      obtain ⟨t0, -⟩ := k2.pf hf (by rw [hex f hf]; exact hfi)
      rw [rs_eq] at t0
      exact ⟨_, r3, rfl, by rw [k1]; rfl, hex, Or.inr ⟨by rw [p5]; omega, by rw [p0]; omega, by rw [k1, p0]; show ((z - n : Nat) : Int) = _; omega, k3 0 (by decide), by rw [t0, p0]; omega, fun h _ => by rw [p0] at h; omega⟩⟩
end P30A
