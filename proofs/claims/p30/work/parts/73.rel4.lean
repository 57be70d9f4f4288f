section REL
variable {K O Rk Z B S W P r : Nat → Int}
/-- a tail that grows or shrinks where it is -/
theorem DR.size (H : DR K O Rk Z B S W P r) {f : Nat} {z2 : Int} (hf : f < 10) (hB : B f ≠ -1) (hq : z2 / 16 = Z f / 16) (hm : 0 < z2 % 16) (hi : S f + z2 % 16 ≤ 16) (h200 : 0 ≤ z2 ∧ z2 ≤ 200)
    (hd : ∀ g, g < 10 → g ≠ f → B g = B f → S g + Z g % 16 ≤ S f ∨ S f + z2 % 16 ≤ S g) : DR K O Rk (rs Z f z2) B S W P (rs r (27 + 18 * f + 1) z2) := by
  have hro : ∀ g w, w < 18 → ro (rs r (27 + 18 * f + 1) z2) g w = if g = f ∧ w = 1 then z2 else ro r g w := fun g w hw => ro_rs (by decide) hw
  have hone : ∀ g w, w < 18 → (g ≠ f ∨ w ≠ 1) → ro (rs r (27 + 18 * f + 1) z2) g w = ro r g w := fun g w hw hg => by rw [hro g w hw, if_neg (by omega)]
  have hZ16 : ∀ g, rs Z f z2 g / 16 = Z g / 16 := fun g => by
    by_cases e : g = f
    · subst e; rw [rs_eq]; exact hq
    · rw [rs_ne e]
  refine ⟨fun g hg => ?_, fun b hb => ?_, fun g hg => ?_, ?_⟩
  · by_cases e : g = f
    · subst e
      rcases H.1 g hg with ⟨-, -, -, c, -⟩ | ⟨h0, e1, h1, e2, h2, e5, e4, h3⟩
      · exact absurd c hB
      · refine Or.inr ⟨?_, ?_, ?_, ?_, h2, ?_, ?_, Or.inl ?_⟩
        · rw [hone g 0 (by decide) (Or.inr (by decide))]; exact h0
        · rw [hro g 1 (by decide), if_pos ⟨rfl, rfl⟩, rs_eq]
        · rw [rs_eq]; exact h200
        · rw [hone g 2 (by decide) (Or.inr (by decide))]; exact e2
        · rw [hone g 5 (by decide) (Or.inr (by decide))]; exact e5
        · rw [hone g 4 (by decide) (Or.inr (by decide))]; exact e4
        · rw [rs_eq, hone g 3 (by decide) (Or.inr (by decide)), hone g 4 (by decide) (Or.inr (by decide))]
          rcases h3 with ⟨-, c2, c3, c4, c5, -⟩ | ⟨-, c2, -⟩
          · exact ⟨hm, c2, c3, c4, c5, hi⟩
          · exact absurd c2 hB
    · have h := H.1 g hg
      unfold DRf at h ⊢
      rw [rs_ne e, hone g 0 (by decide) (Or.inl e), hone g 1 (by decide) (Or.inl e), hone g 2 (by decide) (Or.inl e), hone g 3 (by decide) (Or.inl e), hone g 4 (by decide) (Or.inl e), hone g 5 (by decide) (Or.inl e)]
      rcases h with h | h
      · exact Or.inl ⟨h.1, fun w hw => by rw [hone g w hw (Or.inl e)]; exact h.2.1 w hw, h.2.2⟩
      · exact Or.inr h
  · obtain ⟨k1, k2, k3, k4, k5, k6, k7, k8⟩ := H.2.1 b hb
    refine ⟨by rw [rk_rs (f := f) (w := 1) (Nat.lt_of_lt_of_le (Nat.add_lt_add_left hb 3) (by decide))]; exact k1, k2, ?_, k4, k5, k6, k7, k8⟩
    rcases k3 with h | ⟨g, k, hg, q1, q2, q3, q4⟩
    · exact Or.inl h
    · have := (H.DI g hg).1
      exact Or.inr ⟨g, k, hg, q1, q2, by rw [hZ16]; exact q3, by rw [hone g (6 + k) (by omega) (Or.inr (by omega))]; exact q4⟩
  · intro k hk
    rw [hZ16] at hk
    obtain ⟨b, q1, q2, q3⟩ := H.2.2.1 g hg k hk
    have := (H.DI g hg).1
    exact ⟨b, q1, by rw [hone g (6 + k) (by omega) (Or.inr (by omega))]; exact q2, q3⟩
  · intro g g2 hg hg2 hne hB1 hB2
    by_cases e : g = f
    · subst e
      have e2 : g2 ≠ g := fun q => hne q.symm
      rw [rs_eq, rs_ne e2]
      have := hd g2 hg2 e2 hB1.symm
      omega
    · by_cases e2 : g2 = f
      · subst e2
        rw [rs_eq, rs_ne e]
        have := hd g hg e hB1
        omega
      · rw [rs_ne e, rs_ne e2]
        exact H.2.2.2 g g2 hg hg2 hne hB1 hB2
theorem ieB_iff {K Z B S : Nat → Int} {lo : Int} {w t m : Nat} {c : Int} (h1 : (((ieN K Z B S lo 24).1 : Nat) : Int) = c) (h2 : (ieN K Z B S lo 24).2 = m) : ieB K Z B S (w : Int) (t : Int) lo = decide ((w : Int) < c ∨ (c = (w : Int) ∧ (t : Int) ≤ (m : Int))) := by
  unfold ieB
  rw [h1, h2]
theorem gapLen_iff {tk : Nat → Bool} {k c m : Nat} : m ≤ gapLen tk k c ↔ m ≤ k ∧ frE tk c m :=
  ⟨fun h => ⟨Nat.le_trans h (gapLen_le tk k c), fun i hi => gapLen_fr tk k c i (by omega)⟩, fun h => gapLen_ge tk k c m h.1 h.2⟩
theorem DR.gipd (H : DR K O Rk Z B S W P r) {f z n : Nat} (hf : f < 10) (hz : Z f = (z : Int)) (hn : 1 ≤ n) : gip r f n = decide ((Z f + (n : Int)) / 16 - Z f / 16 = 0 ∧ (n : Int) ≤ ((cbN Z B S f : Nat) : Int)) := by
  rcases H.1 f hf with ⟨-, -, c, -⟩ | ⟨h0, e1, h1, e2, h2, e5, e4, h3⟩
  · omega
  rcases h3 with ⟨c1, c2, c3, c4, c5, c6⟩ | ⟨c1, c2, c3⟩
  · have hcb : cbN Z B S f = gapLen (tkC r (B f).toNat) (16 - (S f + Z f % 16).toNat) (S f + Z f % 16).toNat := by
      unfold cbN gapL
      rw [if_neg (by omega)]
      refine gapLen_congr _ _ (fun i _ _ => ?_)
      have h4 := H.tk (b := (B f).toNat) (c := i)
      rw [Int.toNat_of_nonneg c4.1] at h4
      show _ = isTk r (((B f).toNat : Nat) : Int) (i : Int)
      rw [Int.toNat_of_nonneg c4.1]
      exact h4.symm
    have hor : orN (gipT r f) n = false ↔ frE (tkC r (B f).toNat) (S f + Z f % 16).toNat n := by
      constructor
      · intro q i hi
        cases hh : tkC r (B f).toNat ((S f + Z f % 16).toNat + i) with
        | false => rfl
        | true =>
          have : orN (gipT r f) n = true := orN_iff.mpr ⟨i, hi, by
            unfold gipT
            rw [← c2, ← c3, ← e1, ← hh]
            unfold tkC
            rw [Int.toNat_of_nonneg c4.1, show (((S f + Z f % 16).toNat + i : Nat) : Int) = S f + Z f % 16 + (i : Int) by omega]⟩
          rw [this] at q
          cases q
      · intro q
        cases hh : orN (gipT r f) n with
        | false => rfl
        | true =>
          obtain ⟨i, hi, h5⟩ := orN_iff.mp hh
          have h6 := q i hi
          unfold gipT at h5
          rw [← c2, ← c3, ← e1] at h5
          unfold tkC at h6
          rw [Int.toNat_of_nonneg c4.1, show (((S f + Z f % 16).toNat + i : Nat) : Int) = S f + Z f % 16 + (i : Int) by omega, h5] at h6
          cases h6
    have hle : (n : Int) ≤ ((cbN Z B S f : Nat) : Int) ↔ S f + Z f % 16 + n ≤ 16 ∧ frE (tkC r (B f).toNat) (S f + Z f % 16).toNat n := by
      rw [hcb]
      have := gapLen_iff (tk := tkC r (B f).toNat) (k := 16 - (S f + Z f % 16).toNat) (c := (S f + Z f % 16).toNat) (m := n)
      constructor
      · intro q
        have h7 := this.mp (by omega)
        exact ⟨by omega, h7.2⟩
      · intro q
        have h7 := this.mpr ⟨by omega, q.2⟩
        omega
    unfold gip gip0
    rw [← e1, ← c3]
    by_cases hc : (Z f + (n : Int)) / 16 - Z f / 16 = 0 ∧ (n : Int) ≤ ((cbN Z B S f : Nat) : Int)
    · have h8 := hle.mp hc.2
      rw [decide_eq_true hc, decide_eq_true (by omega), hor.mpr h8.2]
      rfl
    · rw [decide_eq_false hc]
      by_cases h9 : 0 < Z f % 16 ∧ Z f % 16 + n < 16 ∧ S f + Z f % 16 + n ≤ 16
      · rw [decide_eq_true h9, Bool.true_and]
        cases hh : orN (gipT r f) n with
        | true => rfl
        | false => exact absurd ⟨by omega, hle.mpr ⟨h9.2.2, hor.mp hh⟩⟩ hc
      · rw [decide_eq_false h9]
        rfl
  · have hcb : cbN Z B S f = 0 := by unfold cbN; rw [if_pos (Or.inr c2)]
    rw [hcb, decide_eq_false (p := (Z f + (n : Int)) / 16 - Z f / 16 = 0 ∧ (n : Int) ≤ ((0 : Nat) : Int)) (by omega)]
    unfold gip gip0
    rw [decide_eq_false (by omega)]
    rfl
theorem DRf.no {f : Nat} (h : DRf Z B S W P r f) (hz : Z f = -1) : ro r f 0 = 0 ∧ (∀ w, w < 18 → ro r f w = 0) ∧ Z f = -1 ∧ B f = -1 ∧ S f = -1 ∧ W f = 0 ∧ P f = 0 := by
  rcases h with h | ⟨-, -, c, -⟩
  · exact h
  · omega
theorem DR.wf (H : DR K O Rk Z B S W P r) {f : Nat} (hf : f < 10) (hz : Z f ≠ -1) : ro r f 0 = 1 ∧ ro r f 1 = Z f ∧ ro r f 2 = W f ∧ (W f = 0 ∨ W f = 1) ∧ 0 ≤ Z f ∧ Z f ≤ 200 := by
  rcases H.1 f hf with ⟨-, -, c, -⟩ | ⟨h0, e1, h1, e2, h2, -⟩
  · exact absurd c hz
  · exact ⟨h0, e1.symm, e2.symm, h2, h1.1, h1.2⟩
theorem DR.grow (H : DR K O Rk Z B S W P r) {f z n : Nat} (hf : f < 10) (hz : Z f = (z : Int)) (hn : 1 ≤ n ∧ n ≤ 200) :
    (goN K Z B S W f (n : Int) = -1 → gwO r f n = none) ∧
    (goN K Z B S W f (n : Int) = 0 → ∃ r3, gwO r f n = some (0, r3) ∧ DR K O Rk (rs Z f ((z + n : Nat) : Int)) B S W P r3 ∧ ∀ j, j < 3 → r3 j = r j) ∧
    (goN K Z B S W f (n : Int) = 1 → ∃ r3, gwO r f n = some (1, r3) ∧ DR (rbK f K Z B S O Rk (r 2) z (z + n)) (rbD f K Z B S O Rk z (z + n)).2.1 (rbD f K Z B S O Rk z (z + n)).2.2.1 (rs Z f ((z + n : Nat) : Int)) (rbB f K Z B S O Rk (r 2) z (z + n)) (rbS f K Z B S O Rk (r 2) z (z + n)) W (rbQ f K Z B S O Rk P (r 2) z (z + n)) r3 ∧ ∀ j, j < 3 → r3 j = r j) := by
  have hz1 : Z f ≠ -1 := by omega
  obtain ⟨w0, w1, w2, w3, w4, w5⟩ := H.wf hf hz1
  have hg := H.gipd hf hz hn.1
  unfold goN gwO
  rw [w1, w2, hg]
  by_cases hc : W f = 1 ∨ 200 < Z f + (n : Int)
  · rw [if_pos hc, if_pos hc]
    exact ⟨fun _ => rfl, fun q => by omega, fun q => by omega⟩
  · rw [if_neg hc, if_neg hc]
    by_cases hd : (Z f + (n : Int)) / 16 - Z f / 16 = 0 ∧ (n : Int) ≤ ((cbN Z B S f : Nat) : Int)
    · rw [if_pos hd, if_pos (decide_eq_true hd)]
      refine ⟨fun q => by omega, fun _ => ⟨_, rfl, ?_, fun j hj => rs_ne (by omega) _⟩, fun q => by omega⟩
      have hBf : B f ≠ -1 := fun q => by
        have : cbN Z B S f = 0 := by unfold cbN; rw [if_pos (Or.inr q)]
        omega
      obtain ⟨-, -, -, c1, -, -, c4, c5, c6⟩ := (H.1 f hf).tl hBf
      have hle : n ≤ gapL ((tkA Z B S (B f) (-1) : Nat) : Int) (S f + Z f % 16).toNat := by
        have h1 : cbN Z B S f = gapL ((tkA Z B S (B f) (-1) : Nat) : Int) (S f + Z f % 16).toNat := by unfold cbN; rw [if_neg (by omega)]
        omega
      have hfr := gapLen_iff.mp hle
      have hzz : Z f + (n : Int) = ((z + n : Nat) : Int) := by omega
      rw [hzz]
      rw [hzz] at hc hd
      refine H.size hf hBf (by omega) (by omega) (by omega) (by omega) (fun g hg2 hgf hB => ?_)
      obtain ⟨-, -, -, d1, -, -, -, d5, d6⟩ := (H.1 g hg2).tl (by omega)
      rcases H.2.2.2 g f hg2 hf hgf hB (by omega) with q | q
      · exact Or.inl q
      · refine Or.inr (Decidable.byContradiction fun hno => ?_)
        have h5 := hfr.2 ((S g).toNat - (S f + Z f % 16).toNat) (by omega)
        rw [btB_tb] at h5
        unfold tkA at h5
        rw [tkF_tb (H.S0 (by omega)) _ 10 (Nat.le_refl _)] at h5
        have h6 : orN (fun x => decide (B x = B f ∧ (x : Int) ≠ -1 ∧ S x ≤ (((S f + Z f % 16).toNat + ((S g).toNat - (S f + Z f % 16).toNat) : Nat) : Int) ∧ (((S f + Z f % 16).toNat + ((S g).toNat - (S f + Z f % 16).toNat) : Nat) : Int) < S x + Z x % 16)) 10 = true := orN_iff.mpr ⟨g, hg2, decide_eq_true ⟨hB, by omega, by omega, by omega⟩⟩
        rw [h6] at h5
        cases h5
    · rw [if_neg hd, decide_eq_false hd, if_neg Bool.false_ne_true]
      obtain ⟨i1, i2⟩ := H.ie1 hf hz1
      have e1 : (Z f + (n : Int)) / 16 - Z f / 16 = (((z + n) / 16 - z / 16 : Nat) : Int) := by omega
      have e2 : (Z f + (n : Int)) % 16 = (((z + n) % 16 : Nat) : Int) := by omega
      have e3 : (Z f + (n : Int)).toNat = z + n := by omega
      have e4 : (Z f / 16).toNat = z / 16 := by omega
      rw [e1, e2, e3, e4, ieB_iff i1 i2]
      have H1 := H.s1 hf hz1
      rw [show 16 * (Z f / 16) = 16 * ((z / 16 : Nat) : Int) by omega] at H1
      obtain ⟨j1, j2⟩ := H1.rbU (s := z + n) (rule := r 2) hf (by omega) (by omega) (by omega) (tkR_lo (by decide)).symm
      refine ⟨fun q => ?_, fun q => ?_, fun q => ?_⟩
      · split at q
        · exact absurd q (by decide)
        · rename_i h
          rw [j2 (fun q2 => h (decide_eq_true q2))]
          rfl
      · split at q <;> exact absurd q (by decide)
      · split at q
        · rename_i h
          obtain ⟨r3, k1, k2, k3⟩ := j1 (of_decide_eq_true h)
          rw [k1]
          exact ⟨r3, rfl, k2, fun j hj => by rw [k3 j hj, tkR_lo hj]⟩
        · exact absurd q (by decide)
theorem DR.ln (H : DR K O Rk Z B S W P r) : lnN Z = frnF r := firstN_congr 10 (fun f hf => by
  rcases (H.1 f hf).ex with ⟨h1, h2⟩ | ⟨h1, h2⟩
  · rw [decide_eq_true h1, decide_eq_true h2]
  · rw [decide_eq_false h1, decide_eq_false (by omega)])
theorem cr1_lo {R : Nat → Int} {f j : Nat} (hj : j < 3) : cr1 R f j = R j := cr1_b (by omega)
theorem DR.cr (H : DR K O Rk Z B S W P r) {f : Nat} (hf : f < 10) (hz : Z f = -1) : DR K O Rk (rs Z f 0) B S W P (cr1 r f) := by
  obtain ⟨h0, hz2, h1, h2, h3, h4, h5⟩ := (H.1 f hf).no hz
  have hro : ∀ g w, w < 18 → ro (cr1 r f) g w = if g = f then (if w = 0 then 1 else if w = 3 then -1 else if w = 4 then -1 else 0) else ro r g w := fun g w hw => cr1_ro hw
  have hone : ∀ g w, w < 18 → g ≠ f → ro (cr1 r f) g w = ro r g w := fun g w hw hg => by rw [hro g w hw, if_neg hg]
  have hself : ∀ w, w < 18 → ro (cr1 r f) f w = if w = 0 then 1 else if w = 3 then -1 else if w = 4 then -1 else 0 := fun w hw => by rw [hro f w hw, if_pos rfl]
  refine ⟨fun g hg => ?_, fun b hb => ?_, fun g hg => ?_, ?_⟩
  · by_cases e : g = f
    · subst e
      refine Or.inr ⟨?_, ?_, ?_, ?_, Or.inl h4, ?_, ?_, Or.inr ?_⟩
      · rw [hself 0 (by decide)]; rfl
      · rw [hself 1 (by decide), rs_eq]; rfl
      · rw [rs_eq]; decide
      · rw [hself 2 (by decide), h4]; rfl
      · rw [hself 5 (by decide), h5]; rfl
      · rw [hself 4 (by decide)]; decide
      · rw [rs_eq]; exact ⟨by decide, h2, h3⟩
    · have h := H.1 g hg
      unfold DRf at h ⊢
      rw [rs_ne e, hone g 0 (by decide) e, hone g 1 (by decide) e, hone g 2 (by decide) e, hone g 3 (by decide) e, hone g 4 (by decide) e, hone g 5 (by decide) e]
      rcases h with h | h
      · exact Or.inl ⟨h.1, fun w hw => by rw [hone g w hw e]; exact h.2.1 w hw, h.2.2⟩
      · exact Or.inr h
  · obtain ⟨k1, k2, k3, k4, k5, k6, k7, k8⟩ := H.2.1 b hb
    refine ⟨by rw [cr1_b (Nat.lt_of_lt_of_le (Nat.add_lt_add_left hb 3) (by decide))]; exact k1, k2, ?_, k4, k5, k6, k7, k8⟩
    rcases k3 with h | ⟨g, k, hg, q1, q2, q3, q4⟩
    · exact Or.inl h
    · have := (H.DI g hg).1
      have e : g ≠ f := fun e => by rw [e, h1] at q3; omega
      exact Or.inr ⟨g, k, hg, q1, q2, by rw [rs_ne e]; exact q3, by rw [hone g (6 + k) (by omega) e]; exact q4⟩
  · intro k hk
    by_cases e : g = f
    · subst e; rw [rs_eq] at hk; omega
    · rw [rs_ne e] at hk
      obtain ⟨b, q1, q2, q3⟩ := H.2.2.1 g hg k hk
      have := (H.DI g hg).1
      exact ⟨b, q1, by rw [hone g (6 + k) (by omega) e]; exact q2, q3⟩
  · intro g g2 hg hg2 hne hB1 hB2
    have e : g ≠ f := fun e => hB2 (by rw [e]; exact h2)
    have e2 : g2 ≠ f := fun e => hB2 (by rw [hB1, e]; exact h2)
    rw [rs_ne e, rs_ne e2]
    exact H.2.2.2 g g2 hg hg2 hne hB1 hB2
theorem DR.create (H : DR K O Rk Z B S W P r) {s : Nat} (hs : s ≤ 200) :
    (hrB K Z B S (s : Int) = false → crO r s = none) ∧
    (hrB K Z B S (s : Int) = true → ∃ (f : Nat) (r3 : Nat → Int), f < 10 ∧ lnN Z = (f : Int) ∧ frnF r = (f : Int) ∧ crO r s = some r3 ∧ DR (rbK f K (rs Z f 0) B S O Rk (r 2) 0 s) (rbD f K (rs Z f 0) B S O Rk 0 s).2.1 (rbD f K (rs Z f 0) B S O Rk 0 s).2.2.1 (rs (rs Z f 0) f (s : Int)) (rbB f K (rs Z f 0) B S O Rk (r 2) 0 s) (rbS f K (rs Z f 0) B S O Rk (r 2) 0 s) W (rbQ f K (rs Z f 0) B S O Rk P (r 2) 0 s) r3 ∧ ∀ j, j < 3 → r3 j = r j) := by
  have hln := H.ln
  unfold hrB crO
  rw [← hln]
  by_cases hl : lnN Z = -1
  · rw [decide_eq_false (fun q => q hl), if_pos hl]
    exact ⟨fun _ => rfl, fun q => by cases q⟩
  · rw [decide_eq_true hl, Bool.true_and, if_neg hl]
    have hbd := lnN_bd Z
    obtain ⟨f, hfe⟩ : ∃ f : Nat, lnN Z = (f : Int) := ⟨(lnN Z).toNat, by omega⟩
    obtain ⟨hf, hzf⟩ := lnN_z hfe
    rw [hfe, Int.toNat_natCast]
    have H0 := H.cr hf hzf
    have hBf : B f = -1 := by
      rcases H.1 f hf with ⟨-, -, -, h2, -⟩ | ⟨-, -, c, -⟩
      · exact h2
      · omega
    have hSf : S f = -1 ∧ W f = 0 := by
      rcases H.1 f hf with ⟨-, -, -, -, h2, h3, -⟩ | ⟨-, -, c, -⟩
      · exact ⟨h2, h3⟩
      · omega
    have H1 : DR (dtK K (rs Z f 0) B S f) O Rk (rs (rs Z f 0) f (16 * ((0 / 16 : Nat) : Int))) (rs B f (-1)) (rs S f (-1)) W P (cr1 r f) := by
      refine H0.congr (fun b _ => ⟨?_, rfl, rfl⟩) (fun g hg => ⟨?_, ?_, ?_, rfl, rfl⟩) (fun j _ => rfl)
      · unfold dtK
        rw [if_pos hBf]
      · by_cases e : g = f
        · subst e; rw [rs_eq, rs_eq]; rfl
        · rw [rs_ne e]
      · by_cases e : g = f
        · subst e; rw [rs_eq, hBf]
        · rw [rs_ne e]
      · by_cases e : g = f
        · subst e; rw [rs_eq, hSf.1]
        · rw [rs_ne e]
    obtain ⟨i1, i2⟩ := H.ie0
    have hc : cntK (cr1 r f) 0 = cntK r 0 := by
      unfold cntK
      exact sumN_congr 24 (fun b hb => by rw [cr1_b (by omega)])
    have hm : mlg (cr1 r f) = mlg r := H.lg_same H0 (fun b _ => Iff.rfl) (fun g _ hg => rs_ne (fun e => hg (by rw [e]; exact hBf)) _)
    obtain ⟨j1, j2⟩ := H1.rbU (s := s) (rule := r 2) hf hs (by omega) hSf.2 (cr1_lo (by decide)).symm
    rw [hc, hm] at j1 j2
    have e1 : (s : Int) / 16 = ((s / 16 : Nat) : Int) := by omega
    have e2 : (s : Int) % 16 = ((s % 16 : Nat) : Int) := by omega
    rw [e1, e2, ieB_iff i1 i2]
    rw [show s / 16 - 0 / 16 = s / 16 by omega] at j1 j2
    refine ⟨fun q => j2 (of_decide_eq_false q), fun q => ?_⟩
    obtain ⟨r3, k1, k2, k3⟩ := j1 (of_decide_eq_true q)
    exact ⟨f, r3, hf, rfl, by omega, k1, k2, fun j hj => by rw [k3 j hj, cr1_lo hj]⟩
theorem DR.cut (H : DR K O Rk Z B S W P r) {f z n : Nat} (hf : f < 10) (hz : Z f = (z : Int)) (hn : 1 ≤ n) :
    (W f = 1 ∨ z < n → cuO r f n = none) ∧
    (W f ≠ 1 → n ≤ z → (z - n) / 16 ≠ z / 16 → ∃ r3, cuO r f n = some (((z - n : Nat) : Int), r3) ∧ DR (rbK f K Z B S O Rk (r 2) z (z - n)) (rbD f K Z B S O Rk z (z - n)).2.1 (rbD f K Z B S O Rk z (z - n)).2.2.1 (rs Z f ((z - n : Nat) : Int)) (rbB f K Z B S O Rk (r 2) z (z - n)) (rbS f K Z B S O Rk (r 2) z (z - n)) W (rbQ f K Z B S O Rk P (r 2) z (z - n)) r3 ∧ ∀ j, j < 3 → r3 j = r j) ∧
    (W f ≠ 1 → n ≤ z → (z - n) / 16 = z / 16 → (z - n) % 16 = 0 → ∃ r3, cuO r f n = some (((z - n : Nat) : Int), r3) ∧ DR (dtK K Z B S f) O Rk (rs Z f ((z - n : Nat) : Int)) (rs B f (-1)) (rs S f (-1)) W P r3 ∧ ∀ j, j < 3 → r3 j = r j) ∧
    (W f ≠ 1 → n ≤ z → (z - n) / 16 = z / 16 → (z - n) % 16 ≠ 0 → ∃ r3, cuO r f n = some (((z - n : Nat) : Int), r3) ∧ DR K O Rk (rs Z f ((z - n : Nat) : Int)) B S W P r3 ∧ ∀ j, j < 3 → r3 j = r j) := by
  have hz1 : Z f ≠ -1 := by omega
  obtain ⟨w0, w1, w2, w3, w4, w5⟩ := H.wf hf hz1
  unfold cuO
  rw [w1, w2]
  by_cases hc : W f = 1 ∨ Z f - (n : Int) < 0
  · rw [if_pos hc]
    exact ⟨fun _ => rfl, fun _ _ => by omega, fun _ _ => by omega, fun _ _ => by omega⟩
  · rw [if_neg hc]
    have e1 : Z f - (n : Int) = ((z - n : Nat) : Int) := by omega
    have e2 : (Z f / 16).toNat = z / 16 := by omega
    have H1 := H.s1 hf hz1
    rw [e1, Int.toNat_natCast, e2]
    refine ⟨fun q => by omega, fun _ _ hd => ?_, fun _ hle hd hm => ?_, fun _ hle hd hm => ?_⟩
    · rw [if_neg (by omega)]
      rw [show 16 * (Z f / 16) = 16 * ((z / 16 : Nat) : Int) by omega] at H1
      have hlt : (z - n) / 16 < z / 16 := by omega
      have H2 := H1.s3d (w := z / 16) (n := z / 16 - (z - n) / 16) hf (by omega) (rs_eq _ _ _) (by omega)
      rw [rs_rs, show z / 16 - (z / 16 - (z - n) / 16) = (z - n) / 16 by omega] at H2
      have hT : rbT f K Z B S O Rk z (z - n) = (dtK K Z B S f, O, Rk) := by
        unfold rbT
        rw [show (z - n) / 16 - z / 16 = 0 by omega]
        rfl
      have hD : rbD f K Z B S O Rk z (z - n) = dwS2 (f : Int) (((z - n) / 16 : Nat) : Int) (dtK K Z B S f) O Rk 24 := by
        unfold rbD
        rw [hT]
      rw [← hD] at H2
      have hcnt : 0 < cntK (dwN (tkR r f) f (z / 16 - (z - n) / 16)) 0 := by
        obtain ⟨b, hb, -, q2, q3⟩ := H1.2.2.1 f hf ((z - n) / 16) (by rw [rs_eq]; omega)
        have hB := H1.2.1 b hb
        have hk : dtK K Z B S f b = 1 := by
          rcases hB.2.2.2.1 (by omega) with q | q
          · exact q
          · have := hB.2.2.2.2.2.2.2 q f hf (Or.inl q2)
            omega
        have h5 := (dwS2_at (f : Int) (((z - n) / 16 : Nat) : Int) (dtK K Z B S f) O Rk 24 b).1
        rw [if_pos ⟨hb, ⟨q2, by omega⟩, hk⟩, ← hD, H2.kind hb] at h5
        refine Decidable.byContradiction fun hno => ?_
        have h6 := (sumB_0 (p := fun b => decide (dwN (tkR r f) f (z / 16 - (z - n) / 16) (3 + b) = 0)) 24).mp (Int.not_lt.mp hno) b hb
        rw [decide_eq_true h5] at h6
        cases h6
      obtain ⟨j1, -⟩ := H2.put hf (by omega) (by omega) (rule := r 2) (p := rbP f K Z B S O Rk (r 2) z (z - n)) (by rw [dwN_lo (by decide), tkR_lo (by decide)]) rfl
      obtain ⟨r3, k1, k2, k3⟩ := j1 (Or.inr (Or.inr hcnt))
      rw [k1]
      exact ⟨r3, rfl, k2, fun j hj => by rw [k3 j hj, dwN_lo hj, tkR_lo hj]⟩
    · rw [if_pos (by omega)]
      have hr : ctR1 r f (z - n) = tkR r f := by
        unfold ctR1 tkR
        rw [if_pos hm, if_pos (by omega)]
        unfold ct0 tk0
        rw [w1, show 16 * (Z f / 16) = ((z - n : Nat) : Int) by omega]
      rw [hr]
      refine ⟨_, rfl, ?_, fun j hj => tkR_lo hj⟩
      rw [show 16 * (Z f / 16) = ((z - n : Nat) : Int) by omega] at H1
      exact H1
    · rw [if_pos (by omega)]
      have hr : ctR1 r f (z - n) = rs r (27 + 18 * f + 1) ((z - n : Nat) : Int) := by
        unfold ctR1
        rw [if_neg hm]
      rw [hr]
      refine ⟨_, rfl, ?_, fun j hj => rs_ne (by omega) _⟩
      have hBf : B f ≠ -1 := by
        rcases H.1 f hf with ⟨-, -, c, -⟩ | ⟨-, -, -, -, -, -, -, h3⟩
        · omega
        · rcases h3 with h3 | h3 <;> omega
      obtain ⟨-, -, -, c1, -, -, c4, c5, c6⟩ := (H.1 f hf).tl hBf
      refine H.size hf hBf (by omega) (by omega) (by omega) (by omega) (fun g hg hgf hB => ?_)
      have := H.2.2.2 g f hg hf hgf hB (by omega)
      omega
end REL
