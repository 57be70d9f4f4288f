theorem sumN_one {g g2 : Nat → Int} {b0 : Nat} {x : Int} (h : ∀ b, b ≠ b0 → g2 b = g b) (h0 : g2 b0 = g b0 + x) : ∀ n, sumN g2 n = sumN g n + (if b0 < n then x else 0) := by
  intro n
  induction n with
  | zero => rfl
  | succ n ih =>
    show sumN g2 n + g2 n = sumN g n + g n + _
    rw [ih]
    by_cases e : n = b0
    · subst e
      rw [h0, if_neg (Nat.lt_irrefl n), if_pos (Nat.lt_succ_self n)]
      omega
    · rw [h n e]
      by_cases q : b0 < n
      · rw [if_pos q, if_pos (by omega)]; omega
      · rw [if_neg q, if_neg (by omega)]; omega
theorem dwS2_ct (f lf : Int) (K O Rk : Nat → Int) : ∀ n, (((dwS2 f lf K O Rk n).2.2.2 : Nat) : Int) = sumN (fun b => Bi (decide ((O b = f ∧ lf ≤ Rk b) ∧ K b = 1))) n := by
  intro n
  induction n with
  | zero => rfl
  | succ n ih =>
    obtain ⟨h1, h2, h3⟩ := dwS2_at f lf K O Rk n n
    rw [if_neg (fun q => Nat.lt_irrefl n q.1)] at h1 h2 h3
    show _ = sumN _ n + Bi (decide ((O n = f ∧ lf ≤ Rk n) ∧ K n = 1))
    unfold dwS2
    rw [h1, h2, h3]
    by_cases hc : O n = f ∧ lf ≤ Rk n
    · rw [if_pos hc]
      by_cases hk : K n = 1
      · rw [if_pos hk, decide_eq_true ⟨hc, hk⟩]
        show (((dwS2 f lf K O Rk n).2.2.2 + 1 : Nat) : Int) = _ + 1
        omega
      · rw [if_neg hk, decide_eq_false (fun q => hk q.2)]
        show (((dwS2 f lf K O Rk n).2.2.2 : Nat) : Int) = _ + 0
        omega
    · rw [if_neg hc, decide_eq_false (fun q => hc q.1)]
      show _ = _ + (0 : Int)
      omega
section REL
variable {K O Rk Z B S W P r : Nat → Int}
theorem DR.dlN (H : DR K O Rk Z B S W P r) {f : Nat} (hf : f < 10) : ∀ k : Nat, (k : Int) ≤ Z f / 16 → (∀ b, b < 24 → dlN r f k (3 + b) = if O b = (f : Int) ∧ Rk b < (k : Int) ∧ K b = 1 then 0 else K b) ∧ dcN r f k = sumN (fun b => Bi (decide (O b = (f : Int) ∧ Rk b < (k : Int) ∧ K b = 1))) 24 ∧ ∀ j, j < 3 → CTailBlocksLaw_law_r6291_d6fea3.dlN r f k j = r j := by
  intro k
  induction k with
  | zero =>
    intro _
    have hno : ∀ b, b < 24 → ¬ (O b = (f : Int) ∧ Rk b < ((0 : Nat) : Int) ∧ K b = 1) := fun b hb q => by
      obtain ⟨k, q2, -⟩ := H.own hf hb q.1
      omega
    refine ⟨fun b hb => ?_, ?_, fun _ _ => rfl⟩
    · rw [if_neg (hno b hb)]
      exact (H.kind hb).symm
    · show (0 : Int) = _
      have h4 : sumN (fun b => Bi (decide (O b = (f : Int) ∧ Rk b < ((0 : Nat) : Int) ∧ K b = 1))) 24 = sumN (fun _ => 0) 24 := sumN_congr 24 (fun b hb => by rw [decide_eq_false (hno b hb)]; rfl)
      rw [h4]
      decide
  | succ k ih =>
    intro hk
    obtain ⟨i1, i2, i3⟩ := ih (by omega)
    obtain ⟨b0, hb0, hr0, ho0, hk0⟩ := H.2.2.1 f hf k (by omega)
    have hun : ∀ b, b < 24 → O b = (f : Int) → Rk b = (k : Int) → b = b0 := fun b hb q1 q2 => by
      obtain ⟨k2, q3, -, q4⟩ := H.own hf hb q1
      have e : k2 = k := by omega
      subst e
      omega
    have hbb0 := i1 b0 hb0
    rw [if_neg (by omega)] at hbb0
    have hs : CTailBlocksLaw_law_r6291_d6fea3.dlN r f (k + 1) = rs (CTailBlocksLaw_law_r6291_d6fea3.dlN r f k) (3 + b0) (if K b0 = 1 then 0 else K b0) := by
      show dlS (CTailBlocksLaw_law_r6291_d6fea3.dlN r f k) (ro r f (6 + k)).toNat = _
      unfold dlS
      rw [hr0, Int.toNat_natCast, hbb0]
    refine ⟨fun b hb => ?_, ?_, fun j hj => ?_⟩
    · rw [hs]
      by_cases e : b = b0
      · subst e
        rw [rs_eq]
        by_cases h1 : K b = 1
        · rw [if_pos h1, if_pos ⟨ho0, by omega, h1⟩]
        · rw [if_neg h1, if_neg (fun q => h1 q.2.2)]
      · rw [rs_ne (j := 3 + b) (i := 3 + b0) (fun q => e (Nat.add_left_cancel q)), i1 b hb]
        by_cases h2 : O b = (f : Int) ∧ Rk b < (k : Int) ∧ K b = 1
        · rw [if_pos h2, if_pos ⟨h2.1, by omega, h2.2.2⟩]
        · rw [if_neg h2, if_neg (fun q => by
            by_cases q2 : Rk b = (k : Int)
            · exact e (hun b hb q.1 q2)
            · exact h2 ⟨q.1, by omega, q.2.2⟩)]
    · show dcN r f k + Bi (decide (CTailBlocksLaw_law_r6291_d6fea3.dlN r f k (3 + (ro r f (6 + k)).toNat) = 1)) = _
      rw [hr0, Int.toNat_natCast, hbb0, i2]
      have h5 : sumN (fun b => if b < 24 then Bi (decide (O b = (f : Int) ∧ Rk b < ((k + 1 : Nat) : Int) ∧ K b = 1)) else 0) 24 = sumN (fun b => if b < 24 then Bi (decide (O b = (f : Int) ∧ Rk b < (k : Int) ∧ K b = 1)) else 0) 24 + (if b0 < 24 then Bi (decide (K b0 = 1)) else 0) := by
        refine sumN_one (fun b hb => ?_) ?_ 24
        · by_cases hb24 : b < 24
          · rw [if_pos hb24, if_pos hb24]
            congr 1
            refine decide_eq_decide.mpr ⟨fun q => ⟨q.1, ?_, q.2.2⟩, fun q => ⟨q.1, by omega, q.2.2⟩⟩
            refine Decidable.byContradiction fun q2 => hb (hun b hb24 q.1 (by omega))
          · rw [if_neg hb24, if_neg hb24]
        · rw [if_pos hb0, if_pos hb0, decide_eq_false (p := O b0 = (f : Int) ∧ Rk b0 < (k : Int) ∧ K b0 = 1) (by omega)]
          show _ = 0 + _
          rw [Int.zero_add]
          congr 1
          exact decide_eq_decide.mpr ⟨fun q => q.2.2, fun q => ⟨ho0, by omega, q⟩⟩
      rw [if_pos hb0] at h5
      have h6 : sumN (fun b => Bi (decide (O b = (f : Int) ∧ Rk b < ((k + 1 : Nat) : Int) ∧ K b = 1))) 24 = sumN (fun b => if b < 24 then Bi (decide (O b = (f : Int) ∧ Rk b < ((k + 1 : Nat) : Int) ∧ K b = 1)) else 0) 24 := sumN_congr 24 (fun b hb => (if_pos hb).symm)
      have h7 : sumN (fun b => Bi (decide (O b = (f : Int) ∧ Rk b < (k : Int) ∧ K b = 1))) 24 = sumN (fun b => if b < 24 then Bi (decide (O b = (f : Int) ∧ Rk b < (k : Int) ∧ K b = 1)) else 0) 24 := sumN_congr 24 (fun b hb => (if_pos hb).symm)
      rw [h6, h5, h7]
    · rw [hs, rs_ne (by omega)]
      exact i3 j hj
theorem DR.del (H : DR K O Rk Z B S W P r) {f : Nat} (hf : f < 10) (hz : Z f ≠ -1) :
    DR (dwS2 (f : Int) 0 (dtK K Z B S f) O Rk 24).1 (dwS2 (f : Int) 0 (dtK K Z B S f) O Rk 24).2.1 (dwS2 (f : Int) 0 (dtK K Z B S f) O Rk 24).2.2.1 (rs Z f (-1)) (rs B f (-1)) (rs S f (-1)) (rs W f 0) (rs P f 0) (dlR r f) ∧
    dtV K Z B S f + (((dwS2 (f : Int) 0 (dtK K Z B S f) O Rk 24).2.2.2 : Nat) : Int) = dlV r f ∧ ∀ j, j < 3 → dlR r f j = r j := by
  obtain ⟨w0, w1, w2, w3, w4, w5⟩ := H.wf hf hz
  have hI := H.RI
  obtain ⟨n1, n2, n3⟩ := H.dlN hf (Z f / 16).toNat (by omega)
  have hdro : ∀ g x, ro (CTailBlocksLaw_law_r6291_d6fea3.dlN r f (Z f / 16).toNat) g x = ro r g x := fun g x => dlN_ro hI hf (by omega)
  have h1ro : ∀ g x, x < 18 → ro (dl1 r f) g x = if g = f then 0 else ro r g x := fun g x hx => by
    unfold dl1
    rw [zrR_ro hx, w1]
    by_cases e : g = f
    · rw [if_pos e, if_pos e]
    · rw [if_neg e, if_neg e, hdro]
  have h1b : ∀ b, b < 24 → dl1 r f (3 + b) = if O b = (f : Int) ∧ K b = 1 then 0 else K b := fun b hb => by
    unfold dl1
    rw [zrR_b (by omega), w1, n1 b hb]
    by_cases h : O b = (f : Int) ∧ K b = 1
    · obtain ⟨k, q1, q2, -⟩ := H.own hf hb h.1
      rw [if_pos h, if_pos ⟨h.1, by omega, h.2⟩]
    · rw [if_neg h, if_neg (fun q => h ⟨q.1, q.2.2⟩)]
  have h1lo : ∀ j, j < 3 → dl1 r f j = r j := fun j hj => by
    unfold dl1
    rw [zrR_b (by omega), w1]
    exact n3 j hj
  have hti : ∀ b : Nat, tiF (dl1 r f) (b : Int) ≤ 0 ↔ noT B f b = true := by
    intro b
    rw [noT_iff]
    unfold tiF
    rw [sumB_0]
    constructor
    · intro h g hg hgf q
      have h1 := h g hg
      rw [hasT_congr (R2 := r) (fun w hw => by rw [h1ro g w (by omega), if_neg hgf]), (H.1 g hg).tail (by omega), decide_eq_true q] at h1
      cases h1
    · intro h g hg
      by_cases e : g = f
      · subst e
        refine hasT_no (Or.inl ?_)
        rw [h1ro g 0 (by decide), if_pos rfl]
        decide
      · rw [hasT_congr (R2 := r) (fun w hw => by rw [h1ro g w (by omega), if_neg e]), (H.1 g hg).tail (by omega), decide_eq_false (h g hg e)]
  have hdt : ∀ b, b < 24 → dtK K Z B S f b = if B f = (b : Int) ∧ K b = 2 ∧ noT B f b = true then 0 else K b := fun b hb => H.dt hf hb
  have hK : ∀ b, b < 24 → (dwS2 (f : Int) 0 (dtK K Z B S f) O Rk 24).1 b = if O b = (f : Int) ∧ K b = 1 then 0 else dtK K Z B S f b := fun b hb => by
    rw [(dwS2_at (f : Int) 0 (dtK K Z B S f) O Rk 24 b).1]
    have hd := hdt b hb
    by_cases h : O b = (f : Int) ∧ K b = 1
    · obtain ⟨k, q1, -⟩ := H.own hf hb h.1
      rw [if_pos h, if_pos ⟨hb, ⟨h.1, by omega⟩, by rw [hd, if_neg (by omega)]; exact h.2⟩]
    · rw [if_neg h, if_neg]
      rintro ⟨-, q1, q2⟩
      rw [hd] at q2
      split at q2
      · omega
      · exact h ⟨q1.1, q2⟩
  have hO : ∀ b, b < 24 → (dwS2 (f : Int) 0 (dtK K Z B S f) O Rk 24).2.1 b = if O b = (f : Int) then -1 else O b := fun b hb => by
    rw [(dwS2_at (f : Int) 0 (dtK K Z B S f) O Rk 24 b).2.1]
    by_cases h : O b = (f : Int)
    · obtain ⟨k, q1, -⟩ := H.own hf hb h
      rw [if_pos h, if_pos ⟨hb, h, by omega⟩]
    · rw [if_neg h, if_neg (fun q => h q.2.1)]
  have hR : ∀ b, b < 24 → O b ≠ (f : Int) → (dwS2 (f : Int) 0 (dtK K Z B S f) O Rk 24).2.2.1 b = Rk b := fun b hb h => by
    rw [(dwS2_at (f : Int) 0 (dtK K Z B S f) O Rk 24 b).2.2, if_neg (fun q => h q.2.1)]
  -- the model's block kinds at the end
  have hfr : ∀ b0 : Nat, B f = (b0 : Int) → b0 < 24 → (frC (dl1 r f) b0 = decide (K b0 = 2 ∧ noT B f b0 = true)) := fun b0 h0 hb0 => by
    unfold frC
    refine decide_eq_decide.mpr ?_
    have hk := (H.2.1 b0 hb0).2.2.2.2.2.2.1 f hf h0
    rw [h1b b0 hb0, if_neg (by omega), hti]
  have hlast : ∀ b, b < 24 → dlR r f (3 + b) = (dwS2 (f : Int) 0 (dtK K Z B S f) O Rk 24).1 b := fun b hb => by
    rw [hK b hb, hdt b hb]
    unfold dlR
    rw [w1]
    by_cases hB : B f = -1
    · have ht : ¬ 0 < Z f % 16 := by
        rcases H.1 f hf with ⟨-, -, c, -⟩ | ⟨-, -, -, -, -, -, -, h3⟩
        · omega
        · rcases h3 with h3 | h3 <;> omega
      rw [if_neg ht, h1b b hb, if_neg (c := B f = (b : Int) ∧ K b = 2 ∧ noT B f b = true) (fun q => by omega)]
    · obtain ⟨-, -, -, e2, e3, -, e5, -⟩ := (H.1 f hf).tl hB
      obtain ⟨b0, e0⟩ : ∃ b0 : Nat, B f = (b0 : Int) := ⟨(B f).toNat, by omega⟩
      rw [if_pos e2, ← e3, e0, Int.toNat_natCast]
      unfold frR
      rw [hfr b0 e0 (by omega)]
      have hk := (H.2.1 b0 (by omega)).2.2.2.2.2.2.1 f hf e0
      by_cases e : b0 = b
      · subst e
        by_cases h2 : K b0 = 2 ∧ noT B f b0 = true
        · rw [if_pos (decide_eq_true h2), rs_eq, if_neg (by omega), if_pos ⟨rfl, h2⟩]
        · rw [if_neg (by rw [decide_eq_false h2]; decide), h1b b0 hb, if_neg (by omega), if_neg (c := (b0 : Int) = (b0 : Int) ∧ K b0 = 2 ∧ noT B f b0 = true) (fun q => h2 q.2), if_neg (by omega)]
      · rw [if_neg (c := (b0 : Int) = (b : Int) ∧ K b = 2 ∧ noT B f b = true) (fun q => by omega)]
        split
        · rw [rs_ne (by omega), h1b b hb]
        · exact h1b b hb
  have hlro : ∀ g x, x < 18 → ro (dlR r f) g x = if g = f then 0 else ro r g x := fun g x hx => by
    unfold dlR
    rw [w1]
    split
    · rename_i ht
      have hB : B f ≠ -1 := by
        rcases H.1 f hf with ⟨-, -, c, -⟩ | ⟨-, -, -, -, -, -, -, h3⟩
        · omega
        · rcases h3 with h3 | h3 <;> omega
      obtain ⟨-, -, -, e2, e3, -, e5, -⟩ := (H.1 f hf).tl hB
      rw [frR_ro (by omega), h1ro g x hx]
    · exact h1ro g x hx
  refine ⟨⟨fun g hg => ?_, fun b hb => ?_, fun g hg => ?_, ?_⟩, ?_, fun j hj => ?_⟩
  · by_cases e : g = f
    · subst e
      refine Or.inl ⟨?_, fun w hw => ?_, rs_eq _ _ _, rs_eq _ _ _, rs_eq _ _ _, rs_eq _ _ _, rs_eq _ _ _⟩
      · rw [hlro g 0 (by decide), if_pos rfl]
      · rw [hlro g w hw, if_pos rfl]
    · have h := H.1 g hg
      unfold DRf at h ⊢
      rw [rs_ne e, rs_ne e, rs_ne e, rs_ne e, rs_ne e, hlro g 0 (by decide), hlro g 1 (by decide), hlro g 2 (by decide), hlro g 3 (by decide), hlro g 4 (by decide), hlro g 5 (by decide), if_neg e, if_neg e, if_neg e, if_neg e, if_neg e, if_neg e]
      rcases h with h | h
      · exact Or.inl ⟨h.1, fun w hw => by rw [hlro g w hw, if_neg e]; exact h.2.1 w hw, h.2.2⟩
      · exact Or.inr h
  · obtain ⟨k1, k2, k3, k4, k5, k6, k7, k8⟩ := H.2.1 b hb
    have hd := hdt b hb
    refine ⟨(hlast b hb).symm, ?_, ?_, ?_, ?_, ?_, ?_, ?_⟩
    · rw [hK b hb, hd]
      split
      · omega
      · split <;> omega
    · rw [hO b hb]
      by_cases h : O b = (f : Int)
      · exact Or.inl (if_pos h)
      · rw [if_neg h, hR b hb h]
        rcases k3 with h1 | ⟨g, k, hg, q1, q2, q3, q4⟩
        · exact Or.inl h1
        · have e : g ≠ f := fun e => h (by rw [q1, e])
          have := (H.DI g hg).1
          exact Or.inr ⟨g, k, hg, q1, q2, by rw [rs_ne e]; exact q3, by rw [hlro g (6 + k) (by omega), if_neg e]; exact q4⟩
    · rw [hO b hb, hK b hb, hd]
      intro q
      by_cases h : O b = (f : Int)
      · rw [if_pos h] at q; exact absurd rfl q
      · rw [if_neg h] at q
        rw [if_neg (fun c => h c.1), if_neg (fun c => by have := k4 q; omega)]
        exact k4 q
    · rw [hO b hb, hK b hb, hd]
      intro q
      by_cases h : O b = (f : Int) ∧ K b = 1
      · rw [if_pos h] at q; omega
      · rw [if_neg h] at q
        split at q
        · omega
        · rw [if_neg (fun c => h ⟨c, q⟩)]
          exact k5 q
    · rw [hK b hb, hd]
      intro q
      by_cases h : O b = (f : Int) ∧ K b = 1
      · rw [if_pos h] at q; omega
      · rw [if_neg h] at q
        split at q
        · omega
        · rename_i hc
          obtain ⟨g, hg, h1⟩ := k6 q
          by_cases e : g = f
          · subst e
            refine Decidable.byContradiction fun hno => hc ⟨h1, q, noT_iff.mpr fun g2 hg2 hgf hB => hno ⟨g2, hg2, by rw [rs_ne hgf]; exact hB⟩⟩
          · exact ⟨g, hg, by rw [rs_ne e]; exact h1⟩
    · rw [hK b hb, hd]
      intro g hg q
      by_cases e : g = f
      · subst e; rw [rs_eq] at q; clear k3 k6; omega
      · rw [rs_ne e] at q
        have := k7 g hg q
        rw [if_neg (by clear k3 k6; omega), if_neg (fun c => noT_iff.mp c.2.2 g hg e q)]
        exact this
    · rw [hO b hb, hK b hb, hd]
      intro q g hg h
      by_cases h1 : O b = (f : Int) ∧ K b = 1
      · rw [if_pos h1] at q; omega
      · rw [if_neg h1] at q
        split at q
        · omega
        · by_cases e : g = f
          · subst e
            rw [rs_eq] at h
            by_cases h2 : O b = (g : Int)
            · rw [if_pos h2] at h; clear k3 k6; omega
            · rw [if_neg h2] at h; clear k3 k6; omega
          · rw [rs_ne e] at h ⊢
            by_cases h2 : O b = (f : Int)
            · rw [if_pos h2] at h
              exact k8 q g hg (by clear k3 k6; omega)
            · rw [if_neg h2] at h
              exact k8 q g hg h
  · intro k hk
    by_cases e : g = f
    · subst e; rw [rs_eq] at hk; omega
    · rw [rs_ne e] at hk
      obtain ⟨b, q1, q2, q3, q4⟩ := H.2.2.1 g hg k hk
      have h2 : O b ≠ (f : Int) := by omega
      have := (H.DI g hg).1
      exact ⟨b, q1, by rw [hlro g (6 + k) (by omega), if_neg e]; exact q2, by rw [hO b q1, if_neg h2]; exact q3, by rw [hR b q1 h2]; exact q4⟩
  · intro g g2 hg hg2 hne hB1 hB2
    have e : g ≠ f := fun e => hB2 (by rw [e]; exact rs_eq _ _ _)
    have e2 : g2 ≠ f := fun e => hB2 (by rw [hB1, e]; exact rs_eq _ _ _)
    rw [rs_ne e] at hB1 hB2
    rw [rs_ne e2] at hB1
    rw [rs_ne e, rs_ne e, rs_ne e2, rs_ne e2]
    exact H.2.2.2 g g2 hg hg2 hne hB1 hB2
  · unfold dlV
    rw [w1, n2, dwS2_ct]
    have h5 : sumN (fun b => Bi (decide ((O b = (f : Int) ∧ 0 ≤ Rk b) ∧ dtK K Z B S f b = 1))) 24 = sumN (fun b => Bi (decide (O b = (f : Int) ∧ Rk b < (((Z f / 16).toNat : Nat) : Int) ∧ K b = 1))) 24 := sumN_congr 24 (fun b hb => by
      show Bi _ = Bi _
      congr 1
      refine decide_eq_decide.mpr ?_
      rw [hdt b hb]
      constructor
      · rintro ⟨q1, q2⟩
        obtain ⟨k, q3, q4, -⟩ := H.own hf hb q1.1
        split at q2
        · omega
        · exact ⟨q1.1, by omega, q2⟩
      · rintro ⟨q1, q2, q3⟩
        obtain ⟨k, q4, q5, -⟩ := H.own hf hb q1
        rw [if_neg (by omega)]
        exact ⟨⟨q1, by omega⟩, q3⟩)
    rw [h5]
    have h6 : dtV K Z B S f = if 0 < Z f % 16 then Bi (frC (dl1 r f) (ro r f 3).toNat) else 0 := by
      unfold dtV
      by_cases hB : B f = -1
      · have ht : ¬ 0 < Z f % 16 := by
          rcases H.1 f hf with ⟨-, -, c, -⟩ | ⟨-, -, -, -, -, -, -, h3⟩
          · omega
          · rcases h3 with h3 | h3 <;> omega
        rw [if_pos hB, if_neg ht]
      · obtain ⟨-, -, -, e2, e3, -, e5, -⟩ := (H.1 f hf).tl hB
        obtain ⟨b0, e0⟩ : ∃ b0 : Nat, B f = (b0 : Int) := ⟨(B f).toNat, by omega⟩
        rw [if_neg hB, if_pos e2, ← e3, e0, Int.toNat_natCast, hfr b0 e0 (by omega)]
        unfold feV
        have hd := H.dt hf (b := b0) (by omega)
        unfold dtK at hd
        rw [if_neg hB, e0, Int.toNat_natCast] at hd
        unfold feK at hd
        by_cases h7 : K b0 = 2 ∧ tkA Z (rs B f (-1)) (rs S f (-1)) ((b0 : Nat) : Int) (-1) = 0
        · rw [if_pos h7, rs_eq] at hd
          rw [if_pos h7]
          by_cases h8 : K b0 = 2 ∧ noT B f b0 = true
          · rw [decide_eq_true h8]; rfl
          · rw [if_neg (fun q => h8 q.2)] at hd
            omega
        · rw [if_neg h7] at hd
          rw [if_neg h7]
          by_cases h8 : K b0 = 2 ∧ noT B f b0 = true
          · rw [if_pos ⟨rfl, h8⟩] at hd
            omega
          · rw [decide_eq_false h8]; rfl
    rw [h6]
    omega
  · unfold dlR
    split
    · rw [frR_lo hj, h1lo j hj]
    · exact h1lo j hj
/-- a file breaks -/
theorem DR.brf (H : DR K O Rk Z B S W P r) {f : Nat} (hf : f < 10) (hz : Z f ≠ -1) : DR K O Rk Z B S (rs W f 1) P (rs r (27 + 18 * f + 2) 1) := by
  have hro : ∀ g w, w < 18 → ro (rs r (27 + 18 * f + 2) 1) g w = if g = f ∧ w = 2 then 1 else ro r g w := fun g w hw => ro_rs (by decide) hw
  have hone : ∀ g w, w < 18 → (g ≠ f ∨ w ≠ 2) → ro (rs r (27 + 18 * f + 2) 1) g w = ro r g w := fun g w hw hg => by rw [hro g w hw, if_neg (by omega)]
  refine ⟨fun g hg => ?_, fun b hb => ?_, fun g hg => ?_, H.2.2.2⟩
  · by_cases e : g = f
    · subst e
      rcases H.1 g hg with ⟨-, -, c, -⟩ | ⟨h0, e1, h1, e2, h2, e5, e4, h3⟩
      · exact absurd c hz
      · refine Or.inr ⟨?_, ?_, h1, ?_, Or.inr (rs_eq _ _ _), ?_, ?_, ?_⟩
        · rw [hone g 0 (by decide) (Or.inr (by decide))]; exact h0
        · rw [hone g 1 (by decide) (Or.inr (by decide))]; exact e1
        · rw [hro g 2 (by decide), if_pos ⟨rfl, rfl⟩, rs_eq]
        · rw [hone g 5 (by decide) (Or.inr (by decide))]; exact e5
        · rw [hone g 4 (by decide) (Or.inr (by decide))]; exact e4
        · rw [hone g 3 (by decide) (Or.inr (by decide)), hone g 4 (by decide) (Or.inr (by decide))]; exact h3
    · have h := H.1 g hg
      unfold DRf at h ⊢
      rw [rs_ne e, hone g 0 (by decide) (Or.inl e), hone g 1 (by decide) (Or.inl e), hone g 2 (by decide) (Or.inl e), hone g 3 (by decide) (Or.inl e), hone g 4 (by decide) (Or.inl e), hone g 5 (by decide) (Or.inl e)]
      rcases h with h | h
      · exact Or.inl ⟨h.1, fun w hw => by rw [hone g w hw (Or.inl e)]; exact h.2.1 w hw, h.2.2⟩
      · exact Or.inr h
  · obtain ⟨k1, k2, k3, k4, k5, k6, k7, k8⟩ := H.2.1 b hb
    refine ⟨by rw [rk_rs (f := f) (w := 2) (Nat.lt_of_lt_of_le (Nat.add_lt_add_left hb 3) (by decide))]; exact k1, k2, ?_, k4, k5, k6, k7, fun q g hg h => ?_⟩
    · rcases k3 with h | ⟨g, k, hg, q1, q2, q3, q4⟩
      · exact Or.inl h
      · have := (H.DI g hg).1
        exact Or.inr ⟨g, k, hg, q1, q2, q3, by rw [hone g (6 + k) (by omega) (Or.inr (by omega))]; exact q4⟩
    · by_cases e : g = f
      · subst e; exact rs_eq _ _ _
      · rw [rs_ne e]; exact k8 q g hg h
  · intro k hk
    obtain ⟨b, q1, q2, q3⟩ := H.2.2.1 g hg k hk
    have := (H.DI g hg).1
    exact ⟨b, q1, by rw [hone g (6 + k) (by omega) (Or.inr (by omega))]; exact q2, q3⟩
theorem DR.spl (H : DR K O Rk Z B S W P r) {b : Nat} (hb : b < 24) : ∀ n, n ≤ 10 → DR K O Rk Z B S (tbS O Z B W b n).1 P (spN r (b : Int) n) ∧ (((tbS O Z B W b n).2 : Nat) : Int) = spV r (b : Int) n ∧ (∀ j, j < 3 → spN r (b : Int) n j = r j) ∧ (∀ g, g < n → hsB O Z B g b = true → (tbS O Z B W b n).1 g = 1) := by
  intro n
  induction n with
  | zero => intro _; exact ⟨H, rfl, fun _ _ => rfl, fun g hg => absurd hg (Nat.not_lt_zero g)⟩
  | succ n ih =>
    intro hn
    obtain ⟨i1, i2, i3, i4⟩ := ih (by omega)
    have hin := i1.inn (f := n) (by omega) hb
    have hex : hsB O Z B n b = true → Z n ≠ -1 := fun q => by
      unfold hsB at q
      exact of_decide_eq_true (Bool.and_eq_true_iff.mp q).1
    have hsp : spC (spN r (b : Int) n) (b : Int) n = decide (hsB O Z B n b = true ∧ (tbS O Z B W b n).1 n = 0) := by
      unfold spC
      rw [hin]
      cases hh : hsB O Z B n b with
      | false => rw [Bool.false_and, decide_eq_false (p := false = true ∧ (tbS O Z B W b n).1 n = 0) (fun q => Bool.false_ne_true q.1)]
      | true =>
        obtain ⟨-, -, w2, -⟩ := i1.wf (f := n) (by omega) (hex hh)
        rw [w2, Bool.true_and]
        exact decide_eq_decide.mpr ⟨fun q => ⟨rfl, q⟩, fun q => q.2⟩
    have hv : spV r (b : Int) (n + 1) = spV r (b : Int) n + Bi (spC (spN r (b : Int) n) (b : Int) n) := rfl
    rw [hv, hsp, ← i2]
    by_cases hc : hsB O Z B n b = true ∧ (tbS O Z B W b n).1 n = 0
    · have ht : tbS O Z B W b (n + 1) = (rs (tbS O Z B W b n).1 n 1, (tbS O Z B W b n).2 + 1) := if_pos hc
      rw [ht, spN_t (by rw [hsp]; exact decide_eq_true hc), decide_eq_true hc]
      refine ⟨i1.brf (by omega) (hex hc.1), ?_, fun j hj => by rw [rs_ne (by omega)]; exact i3 j hj, fun g hg h => ?_⟩
      · show (((tbS O Z B W b n).2 + 1 : Nat) : Int) = _ + 1
        omega
      · by_cases e : g = n
        · subst e; exact rs_eq _ _ _
        · show rs (tbS O Z B W b n).1 n 1 g = 1
          rw [rs_ne e]
          exact i4 g (by omega) h
    · have ht : tbS O Z B W b (n + 1) = tbS O Z B W b n := if_neg hc
      rw [ht, spN_f (by rw [hsp]; exact decide_eq_false hc), decide_eq_false hc]
      refine ⟨i1, ?_, i3, fun g hg h => ?_⟩
      · show _ = _ + (0 : Int)
        omega
      · by_cases e : g = n
        · subst e
          obtain ⟨-, -, -, w3, -⟩ := i1.wf (f := g) (by omega) (hex h)
          rcases w3 with q | q
          · exact absurd ⟨h, q⟩ hc
          · exact q
        · exact i4 g (by omega) h
theorem DR.bad (H : DR K O Rk Z B S W P r) {b : Nat} (hb : b < 24) (hall : ∀ g, g < 10 → hsB O Z B g b = true → W g = 1) : DR (rs K b 3) O Rk Z B S W P (rs r (3 + b) 3) := by
  refine ⟨fun g hg => ?_, fun c hc => ?_, fun g hg => ?_, H.2.2.2⟩
  · have h := H.1 g hg
    unfold DRf at h ⊢
    rw [ro_rsb (by omega), ro_rsb (by omega), ro_rsb (by omega), ro_rsb (by omega), ro_rsb (by omega), ro_rsb (by omega)]
    rcases h with h | h
    · exact Or.inl ⟨h.1, fun w hw => by rw [ro_rsb (by omega)]; exact h.2.1 w hw, h.2.2⟩
    · exact Or.inr h
  · obtain ⟨k1, k2, k3, k4, k5, k6, k7, k8⟩ := H.2.1 c hc
    have k3' : O c = -1 ∨ ∃ f k : Nat, f < 10 ∧ O c = (f : Int) ∧ Rk c = (k : Int) ∧ (k : Int) < Z f / 16 ∧ ro (rs r (3 + b) 3) f (6 + k) = (c : Int) := by
      rcases k3 with h | ⟨g, k, hg, q1, q2, q3, q4⟩
      · exact Or.inl h
      · exact Or.inr ⟨g, k, hg, q1, q2, q3, by rw [ro_rsb (by omega)]; exact q4⟩
    by_cases e : c = b
    · subst e
      refine ⟨by rw [rs_eq, rs_eq], by rw [rs_eq]; exact Or.inr (Or.inr (Or.inr rfl)), k3', fun _ => Or.inr (rs_eq _ _ _), fun q => ?_, fun q => ?_, fun _ _ _ => Or.inr (rs_eq _ _ _), fun _ g hg h => hall g hg ?_⟩
      · rw [rs_eq] at q; cases q
      · rw [rs_eq] at q; cases q
      · unfold hsB
        have hz : Z g ≠ -1 := by
          intro q
          rcases h with h | h
          · obtain ⟨k, -, h5, -⟩ := H.own hg hc h
            rw [q] at h5
            omega
          · have := (H.1 g hg).no q
            omega
        rw [decide_eq_true hz, Bool.true_and]
        rcases h with h | h
        · rw [decide_eq_true h, Bool.true_or]
        · rw [decide_eq_true h, Bool.or_true]
    · exact ⟨by rw [rs_ne e, rs_ne (j := 3 + c) (i := 3 + b) (fun q => e (Nat.add_left_cancel q))]; exact k1, by rw [rs_ne e]; exact k2, k3', by rw [rs_ne e]; exact k4, by rw [rs_ne e]; exact k5, by rw [rs_ne e]; exact k6, by rw [rs_ne e]; exact k7, by rw [rs_ne e]; exact k8⟩
  · intro k hk
    obtain ⟨c, q1, q2, q3⟩ := H.2.2.1 g hg k hk
    exact ⟨c, q1, by rw [ro_rsb (by omega)]; exact q2, q3⟩
theorem DR.heal (H : DR K O Rk Z B S W P r) {b : Nat} (hb : b < 24) (hno : ∀ g, g < 10 → hsB O Z B g b = false) : DR (rs K b 0) O Rk Z B S W P (rs r (3 + b) 0) := by
  have hz : ∀ g : Nat, g < 10 → (O b = (g : Int) ∨ B g = (b : Int)) → False := fun g hg h => by
    have h1 := hno g hg
    have hz : Z g ≠ -1 := by
      intro q
      rcases h with h | h
      · obtain ⟨k, -, h5, -⟩ := H.own hg hb h
        rw [q] at h5
        omega
      · have := (H.1 g hg).no q
        omega
    unfold hsB at h1
    rw [decide_eq_true hz, Bool.true_and] at h1
    rcases h with h | h
    · rw [decide_eq_true h] at h1; cases h1
    · rw [decide_eq_true h, Bool.or_true] at h1; cases h1
  refine ⟨fun g hg => ?_, fun c hc => ?_, fun g hg => ?_, H.2.2.2⟩
  · have h := H.1 g hg
    unfold DRf at h ⊢
    rw [ro_rsb (by omega), ro_rsb (by omega), ro_rsb (by omega), ro_rsb (by omega), ro_rsb (by omega), ro_rsb (by omega)]
    rcases h with h | h
    · exact Or.inl ⟨h.1, fun w hw => by rw [ro_rsb (by omega)]; exact h.2.1 w hw, h.2.2⟩
    · exact Or.inr h
  · obtain ⟨k1, k2, k3, k4, k5, k6, k7, k8⟩ := H.2.1 c hc
    have k3' : O c = -1 ∨ ∃ f k : Nat, f < 10 ∧ O c = (f : Int) ∧ Rk c = (k : Int) ∧ (k : Int) < Z f / 16 ∧ ro (rs r (3 + b) 0) f (6 + k) = (c : Int) := by
      rcases k3 with h | ⟨g, k, hg, q1, q2, q3, q4⟩
      · exact Or.inl h
      · exact Or.inr ⟨g, k, hg, q1, q2, q3, by rw [ro_rsb (by omega)]; exact q4⟩
    by_cases e : c = b
    · subst e
      refine ⟨by rw [rs_eq, rs_eq], by rw [rs_eq]; exact Or.inl rfl, k3', fun q => ?_, fun q => ?_, fun q => ?_, fun g hg q => (hz g hg (Or.inr q)).elim, fun q => ?_⟩
      · rcases k3 with h | ⟨g, k, hg, q1, -⟩
        · exact absurd h q
        · exact (hz g hg (Or.inl q1)).elim
      · rw [rs_eq] at q; cases q
      · rw [rs_eq] at q; cases q
      · rw [rs_eq] at q; cases q
    · exact ⟨by rw [rs_ne e, rs_ne (j := 3 + c) (i := 3 + b) (fun q => e (Nat.add_left_cancel q))]; exact k1, by rw [rs_ne e]; exact k2, k3', by rw [rs_ne e]; exact k4, by rw [rs_ne e]; exact k5, by rw [rs_ne e]; exact k6, by rw [rs_ne e]; exact k7, by rw [rs_ne e]; exact k8⟩
  · intro k hk
    obtain ⟨c, q1, q2, q3⟩ := H.2.2.1 g hg k hk
    exact ⟨c, q1, by rw [ro_rsb (by omega)]; exact q2, q3⟩
end REL
