section REL
variable {K O Rk Z B S W P r : Nat → Int}
theorem DR.plan (H : DR K O Rk Z B S W P r) {LQ F0 : Nat → Int} (NB NS : Nat → Int) (hL : ∀ q, q < (srL r 150).length → LQ q = ro r ((srL r 150).getD q 0) 1 % 16) (hF : ∀ b, b < 24 → F0 b = if tpB K B W b = true then 0 else 16) :
    ∀ a, a ≤ (srL r 150).length → (∀ q, q < a → pnN LQ NB NS F0 q = false) → plI r F0 LQ NB NS a := by
  have h16 : ∀ b, b < 24 → F0 b = 0 ∨ F0 b = 16 := fun b hb => by
    rw [hF b hb]
    split
    · exact Or.inl rfl
    · exact Or.inr rfl
  intro a
  induction a with
  | zero =>
    intro _ _
    refine plI_0 (fun b hb => ?_)
    rw [H.pl0 hb, hF b hb]
    cases tpB K B W b with
    | true => rfl
    | false => rfl
  | succ a ih =>
    intro ha hs
    have h := ih (by omega) (fun q hq => hs q (by omega))
    have h3 := (H.srp (i := a) (by omega)).2.2
    have h4 := hL a (by omega)
    exact plI_s h (by omega) h16 (by omega) h4 (of_decide_eq_false (hs a (Nat.lt_succ_self a)))
theorem orB_cases (p : Nat → Bool) (n : Nat) : (orB p n = false ∧ ∀ j, j < n → p j = false) ∨ (orB p n = true ∧ ∃ i, i < n ∧ p i = true ∧ ∀ j, j < i → p j = false) := by
  induction n with
  | zero => exact Or.inl ⟨rfl, fun j h => absurd h (Nat.not_lt_zero j)⟩
  | succ n ih =>
    rcases ih with ⟨h1, h2⟩ | ⟨h1, i, h2, h3, h4⟩
    · cases hp : p n with
      | false =>
        refine Or.inl ⟨by show (orB p n || p n) = false; rw [h1, hp]; rfl, fun j hj => ?_⟩
        by_cases e : j = n
        · subst e; exact hp
        · exact h2 j (by omega)
      | true => exact Or.inr ⟨by show (orB p n || p n) = true; rw [hp, Bool.or_true], n, Nat.lt_succ_self n, hp, h2⟩
    · exact Or.inr ⟨by show (orB p n || p n) = true; rw [h1, Bool.true_or], i, by omega, h3, h4⟩
theorem DR.pkf (H : DR K O Rk Z B S W P r) {LQ F0 : Nat → Int} (NB NS : Nat → Int) (hL : ∀ q, q < (srL r 150).length → LQ q = ro r ((srL r 150).getD q 0) 1 % 16) (hF : ∀ b, b < 24 → F0 b = if tpB K B W b = true then 0 else 16) :
    (orB (pnN LQ NB NS F0) (srL r 150).length = true → pkO r = none) ∧ (orB (pnN LQ NB NS F0) (srL r 150).length = false → pkO r = some (pkZ (mpP r (srL r 150).length).1) ∧ plI r F0 LQ NB NS (srL r 150).length) := by
  have h16 : ∀ b, b < 24 → F0 b = 0 ∨ F0 b = 16 := fun b hb => by
    rw [hF b hb]
    split
    · exact Or.inl rfl
    · exact Or.inr rfl
  have hro1 : ∀ a, a < (srL r 150).length → plI r F0 LQ NB NS a → ro (mpP r a).1 ((srL r 150).getD a 0) 1 % 16 = LQ a := fun a ha h => by
    rw [hL a ha]
    congr 1
    exact h.2.2.2.2.2.2.1 _ 1 (by decide) (fun q hq2 e => by
      have := srL_inj (by omega) ha e
      omega)
  obtain ⟨m1, m2⟩ := mpP_N (r := r) (srL r 150).length 0 (by omega)
  have hpk : pkO r = (pkN ((srL r 150).drop 0) (mpP r 0).1 (mpP r 0).2).map pkZ := rfl
  rcases orB_cases (pnN LQ NB NS F0) (srL r 150).length with ⟨c1, c2⟩ | ⟨c1, i, c2, c3, c4⟩
  · refine ⟨fun q => absurd (c1.symm.trans q) Bool.false_ne_true, fun _ => ⟨?_, H.plan NB NS hL hF _ (Nat.le_refl _) c2⟩⟩
    rw [hpk, m1 (fun q _ hq => ?_)]
    · rfl
    · have h := H.plan NB NS hL hF q (by omega) (fun j hj => c2 j (by omega))
      have h3 := (H.srp hq).2.2
      have h4 := hL q hq
      rw [hro1 q hq h, plI_q h h16 (by omega)]
      exact of_decide_eq_false (c2 q hq)
  · refine ⟨fun _ => ?_, fun q => absurd (q.symm.trans c1) Bool.false_ne_true⟩
    have h := H.plan NB NS hL hF i (by omega) c4
    have h3 := (H.srp c2).2.2
    have h4 := hL i c2
    rw [hpk, m2 ⟨i, Nat.zero_le i, c2, by rw [hro1 i c2 h, plI_q h h16 (by omega)]; exact of_decide_eq_true c3⟩]
    rfl
theorem sumN_sub {g1 g2 g3 : Nat → Int} : ∀ n, (∀ i, i < n → g1 i = g2 i - g3 i) → sumN g1 n = sumN g2 n - sumN g3 n := by
  intro n
  induction n with
  | zero => intro _; rfl
  | succ n ih =>
    intro h
    show sumN g1 n + g1 n = sumN g2 n + g2 n - (sumN g3 n + g3 n)
    rw [ih (fun i hi => h i (by omega)), h n (by omega)]
    omega
theorem DR.pack (H : DR K O Rk Z B S W P r) {LQ EQ F0 : Nat → Int} (NB NS : Nat → Int) (hL : ∀ q, q < (srL r 150).length → LQ q = ro r ((srL r 150).getD q 0) 1 % 16) (hE : ∀ q, q < (srL r 150).length → EQ q = (((srL r 150).getD q 0 : Nat) : Int)) (hF : ∀ b, b < 24 → F0 b = if tpB K B W b = true then 0 else 16)
    {NB2 NS2 F2 : Nat → Int} (hP : (NB2, NS2, F2) = pnS LQ NB NS F0 (srL r 150).length) (ho : orB (pnN LQ NB NS F0) (srL r 150).length = false) :
    (∀ q, q < (srL r 150).length → coOk EQ NB2 NS2 Z q) ∧ ∃ r3, pkO r = some r3 ∧
      DR (feI (coI EQ NB2 NS2 P S B K (srL r 150).length).2.2.2 Z (coI EQ NB2 NS2 P S B K (srL r 150).length).2.2.1 (coI EQ NB2 NS2 P S B K (srL r 150).length).2.1 24) O Rk Z (coI EQ NB2 NS2 P S B K (srL r 150).length).2.2.1 (coI EQ NB2 NS2 P S B K (srL r 150).length).2.1 W (coI EQ NB2 NS2 P S B K (srL r 150).length).1 r3 ∧
      emN F2 = cntK r 2 - cntK r3 2 ∧ r3 0 = r 0 ∧ r3 1 = wr (r 1 + 1) ∧ r3 2 = r 2 := by
  obtain ⟨hpk, h1, h2, h3, h4, h5, h6, h7, h8⟩ := (H.pkf NB NS hL hF).2 ho
  rw [← hP] at h1 h2 h3 h4 h5 h6
  dsimp only at h1 h2 h3 h4 h5 h6
  obtain ⟨n, hn⟩ : ∃ n, n = (srL r 150).length := ⟨_, rfl⟩
  have hlen : ∀ q, q < n → 0 < LQ q ∧ LQ q < 16 := fun q hq => by
    have h9 := (H.srp (i := q) (by omega)).2.2
    rw [hL q (by omega)]
    exact h9
  have hz : ∀ q, q < n → Z ((srL r 150).getD q 0) = ro r ((srL r 150).getD q 0) 1 ∧ Z ((srL r 150).getD q 0) ≠ -1 ∧ W ((srL r 150).getD q 0) = 0 := fun q hq => by
    obtain ⟨a1, a2, -⟩ := H.srp (i := q) (by omega)
    obtain ⟨-, -, b3, b4, -⟩ := (H.pk a1).1 a2
    obtain ⟨-, c2, -⟩ := H.wf a1 b3
    exact ⟨c2.symm, b3, b4⟩
  rw [← hn] at h1 h3 h4 h5 h6 h7 h8 hL hE hpk ⊢
  have hF0K : ∀ b, b < 24 → F0 b = 0 → K b = 2 := fun b hb q => by
    rw [hF b hb] at q
    cases ht : tpB K B W b with
    | true => exact (H.tpB1 ht).1
    | false => rw [ht] at q; exact absurd q (by decide)
  have hF0T : ∀ b, b < 24 → F0 b = 0 → tpB K B W b = true := fun b hb q => by
    rw [hF b hb] at q
    cases ht : tpB K B W b with
    | true => rfl
    | false => rw [ht] at q; exact absurd q (by decide)
  obtain ⟨q1, q2, q3⟩ := co_at (r := r) (P := P) (S := S) (B := B) (K := K) (NS := NS2) (n := n) (by omega) hE (fun q hq => by
    obtain ⟨b, c1, c2, c3, -⟩ := h1 q hq
    exact ⟨b, c1, c2, hF0K b c1 c3⟩) n (Nat.le_refl n)
  obtain ⟨C, hC⟩ : ∃ C, C = coI EQ NB2 NS2 P S B K n := ⟨_, rfl⟩
  rw [← hC] at q1 q2 q3 ⊢
  obtain ⟨R, hR⟩ : ∃ R, R = (mpP r n).1 := ⟨_, rfl⟩
  rw [← hR] at h6 h7 h8 hpk
  -- is a file among the packed ones
  have hdec : ∀ g : Nat, (∃ q, q < n ∧ (srL r 150).getD q 0 = g) ∨ (∀ q, q < n → (srL r 150).getD q 0 ≠ g) := fun g => by
    by_cases e : g ∈ srL r 150
    · obtain ⟨q, hq, he⟩ := List.mem_iff_getElem.mp e
      exact Or.inl ⟨q, by omega, by rw [List.getD_eq_getElem?_getD, List.getElem?_eq_getElem hq]; exact he⟩
    · refine Or.inr (fun q hq he => e ?_)
      rw [← he, List.getD_eq_getElem?_getD, List.getElem?_eq_getElem (by omega)]
      exact List.getElem_mem _
  have hunp : ∀ g, g < 10 → (∀ q, q < n → (srL r 150).getD q 0 ≠ g) → isPk r g = false := fun g hg h => by
    cases hp : isPk r g with
    | false => rfl
    | true =>
      obtain ⟨q, hq, he⟩ := List.mem_iff_getElem.mp (srL_mem.mpr ⟨hg, hp⟩)
      exact absurd (by rw [List.getD_eq_getElem?_getD, List.getElem?_eq_getElem hq]; exact he) (h q (by omega))
  have hbro : ∀ g, g < 10 → (∀ q, q < n → (srL r 150).getD q 0 ≠ g) → B g ≠ -1 → W g = 1 := fun g hg h hB => by
    have hp := hunp g hg h
    obtain ⟨a0, a1, a2, a3, -⟩ := (H.1 g hg).tl hB
    rcases (H.wf hg (by intro q; have := (H.1 g hg).no q; omega)).2.2.2.1 with q | q
    · rw [isPk_yes a0 (by omega), decide_eq_true (by omega)] at hp
      cases hp
    · exact q
  have hFr : ∀ g, g < 10 → DRf Z C.2.2.1 C.2.1 W C.1 R g := fun g hg => by
    rcases hdec g with ⟨q, hq, rfl⟩ | hne
    · obtain ⟨b, c1, c2, c3, c4, c5⟩ := h1 q hq
      obtain ⟨d1, d2, d3⟩ := q1 q hq
      have e := h6 q
      have hb2 := (h2 b c1).2 c3
      have hz1 := hz q hq
      have hl := hL q hq
      have hll := hlen q hq
      rcases H.1 _ hg with ⟨-, -, c, -⟩ | ⟨f0, f1, f2, f3, f4, f5, f6, f7⟩
      · exact absurd c hz1.2.1
      · refine Or.inr ⟨?_, ?_, f2, ?_, f4, ?_, ?_, Or.inl ⟨by omega, ?_, ?_, ?_, ?_, ?_⟩⟩
        · rw [e 0 hq (by decide), if_neg (by decide), if_neg (by decide), if_neg (by decide)]; exact f0
        · rw [e 1 hq (by decide), if_neg (by decide), if_neg (by decide), if_neg (by decide)]; exact f1
        · rw [e 2 hq (by decide), if_neg (by decide), if_neg (by decide), if_neg (by decide)]; exact f3
        · rw [e 5 hq (by decide), if_neg (by decide), if_neg (by decide), if_pos rfl, d1, f5]
        · rw [e 4 hq (by decide), if_neg (by decide), if_pos rfl]; omega
        · rw [e 3 hq (by decide), if_pos rfl, d3]
        · rw [e 4 hq (by decide), if_neg (by decide), if_pos rfl, d2]
        · rw [d3, c2]; omega
        · rw [d2]; exact c4
        · rw [d2]; omega
    · obtain ⟨d1, d2, d3⟩ := q2 g hne
      have h := H.1 g hg
      unfold DRf at h ⊢
      rw [d1, d2, d3, h7 g 0 (by decide) hne, h7 g 1 (by decide) hne, h7 g 2 (by decide) hne, h7 g 3 (by decide) hne, h7 g 4 (by decide) hne, h7 g 5 (by decide) hne]
      rcases h with h | h
      · exact Or.inl ⟨h.1, fun w hw => by rw [h7 g w hw hne]; exact h.2.1 w hw, h.2.2⟩
      · exact Or.inr h
  have hS1 : ∀ (b : Int), 0 ≤ b → ∀ g : Nat, g < 10 → C.2.2.1 g = b → 0 ≤ C.2.1 g ∧ 0 < Z g % 16 := fun b hb g hg h => by
    obtain ⟨-, -, -, e2, -, -, -, e6, -⟩ := (hFr g hg).tl (by omega)
    exact ⟨e6, e2⟩
  have htk : ∀ b : Nat, tkA Z C.2.2.1 C.2.1 (b : Int) (-1) = 0 ↔ ∀ g, g < 10 → C.2.2.1 g ≠ (b : Int) := fun b => by
    rw [tkA_0 (fun g hg hB => by have := hS1 (b : Int) (by omega) g hg hB; exact ⟨this.1, fun _ => this.2⟩)]
    exact ⟨fun h g hg => h g hg (by omega), fun h g hg _ => h g hg⟩
  have hti : ∀ b : Nat, tiF R (b : Int) ≤ 0 ↔ ∀ g, g < 10 → C.2.2.1 g ≠ (b : Int) := fun b => by
    unfold tiF
    rw [sumB_0]
    constructor
    · intro h g hg q
      have h1 := h g hg
      rw [(hFr g hg).tail (by omega), decide_eq_true q] at h1
      cases h1
    · intro h g hg
      rw [(hFr g hg).tail (by omega), decide_eq_false (h g hg)]
  -- where the tails are now
  have hnew : ∀ g, g < 10 → ∀ b : Nat, b < 24 → C.2.2.1 g = (b : Int) → (∃ q, q < n ∧ (srL r 150).getD q 0 = g ∧ NB2 q = (b : Int) ∧ F0 b = 0) ∨ ((∀ q, q < n → (srL r 150).getD q 0 ≠ g) ∧ B g = (b : Int) ∧ W g = 1) := fun g hg b hb h => by
    rcases hdec g with ⟨q, hq, rfl⟩ | hne
    · obtain ⟨b1, c1, c2, c3, -⟩ := h1 q hq
      rw [(q1 q hq).2.2] at h
      have : b1 = b := by omega
      subst this
      exact Or.inl ⟨q, hq, rfl, h, c3⟩
    · rw [(q2 g hne).2.2] at h
      exact Or.inr ⟨hne, h, hbro g hg hne (by omega)⟩
  obtain ⟨z1, z2, z3⟩ := fzN_at (R := R) 24 (Nat.le_refl _)
  have hKf : ∀ b, b < 24 → feI C.2.2.2 Z C.2.2.1 C.2.1 24 b = if K b = 2 ∧ (tkA Z C.2.2.1 C.2.1 (b : Int) (-1) = 0) then 0 else K b := fun b hb => by
    rw [feI_at, q3 b hb]
    by_cases hc : K b = 2 ∧ tkA Z C.2.2.1 C.2.1 (b : Int) (-1) = 0
    · rw [if_pos hc, if_pos ⟨hb, hc⟩]
    · rw [if_neg hc, if_neg (fun q => hc q.2)]
  have hro3 : ∀ g w, w < 18 → ro (pkZ R) g w = ro R g w := fun g w hw => by
    unfold pkZ
    rw [ro_rsb (by omega), z1]
  have hrb3 : ∀ b, b < 24 → pkZ R (3 + b) = feI C.2.2.2 Z C.2.2.1 C.2.1 24 b := fun b hb => by
    rw [hKf b hb]
    unfold pkZ
    rw [rs_ne (by omega), z2 b hb, h8 (3 + b) (by omega), ← H.kind hb]
    by_cases hc : K b = 2 ∧ tkA Z C.2.2.1 C.2.1 (b : Int) (-1) = 0
    · rw [if_pos hc, if_pos ⟨hb, hc.1, (hti b).mpr ((htk b).mp hc.2)⟩]
    · rw [if_neg hc, if_neg (fun q => hc ⟨q.2.1, (htk b).mpr ((hti b).mp q.2.2)⟩)]
  have hlist : ∀ g k : Nat, 6 + k < 18 → ro (pkZ R) g (6 + k) = ro r g (6 + k) := fun g k hk => by
    rw [hro3 g _ hk]
    rcases hdec g with ⟨q, hq, rfl⟩ | hne
    · rw [h6 q _ hq hk, if_neg (by omega), if_neg (by omega), if_neg (by omega)]
    · exact h7 g _ hk hne
  refine ⟨fun q hq => ?_, pkZ R, hpk, ⟨fun g hg => ?_, fun b hb => ?_, fun g hg => ?_, ?_⟩, ?_, ?_, ?_, ?_⟩
  · obtain ⟨b, c1, c2, c3, c4, c5⟩ := h1 q hq
    obtain ⟨a1, -⟩ := H.srp (i := q) (by omega)
    have hb2 := (h2 b c1).2 c3
    have hz1 := hz q hq
    have hl := hL q hq
    have hw := H.wf a1 hz1.2.1
    unfold coOk
    rw [hE q hq, Int.toNat_natCast, c2]
    omega
  · have h := hFr g hg
    unfold DRf at h ⊢
    rw [hro3 g 0 (by decide), hro3 g 1 (by decide), hro3 g 2 (by decide), hro3 g 3 (by decide), hro3 g 4 (by decide), hro3 g 5 (by decide)]
    rcases h with h | h
    · exact Or.inl ⟨h.1, fun w hw => by rw [hro3 g w hw]; exact h.2.1 w hw, h.2.2⟩
    · exact Or.inr h
  · obtain ⟨k1, k2, k3, k4, k5, k6, k7, k8⟩ := H.2.1 b hb
    have hk := hKf b hb
    refine ⟨(hrb3 b hb).symm, ?_, ?_, ?_, ?_, ?_, ?_, ?_⟩
    · rw [hk]; split <;> omega
    · rcases k3 with h | ⟨g, k, hg, c1, c2, c3, c4⟩
      · exact Or.inl h
      · have := (H.DI g hg).1
        exact Or.inr ⟨g, k, hg, c1, c2, c3, by rw [hlist g k (by omega)]; exact c4⟩
    · intro q
      have := k4 q
      rw [hk, if_neg (by omega)]
      exact this
    · intro q
      rw [hk] at q
      split at q
      · omega
      · exact k5 q
    · intro q
      rw [hk] at q
      split at q
      · omega
      · rename_i hc
        refine Decidable.byContradiction fun hno => hc ⟨q, (htk b).mpr fun g hg hB => hno ⟨g, hg, hB⟩⟩
    · intro g hg q
      rw [hk, if_neg (fun c => (htk b).mp c.2 g hg q)]
      rcases hnew g hg b hb q with ⟨q5, -, -, -, q8⟩ | ⟨-, q6, -⟩
      · exact Or.inl (hF0K b hb q8)
      · exact k7 g hg q6
    · intro q g hg h
      rw [hk] at q
      split at q
      · omega
      · rcases h with h | h
        · exact k8 q g hg (Or.inl h)
        · rcases hnew g hg b hb h with ⟨q5, -, -, -, q8⟩ | ⟨-, -, q6⟩
          · have := hF0K b hb q8
            omega
          · exact q6
  · intro k hk
    obtain ⟨b, c1, c2, c3⟩ := H.2.2.1 g hg k hk
    have := (H.DI g hg).1
    exact ⟨b, c1, by rw [hlist g k (by omega)]; exact c2, c3⟩
  · intro g g2 hg hg2 hne hB hB1
    obtain ⟨-, -, -, -, -, -, t5, -⟩ := (hFr g hg).tl hB1
    obtain ⟨b, hb⟩ : ∃ b : Nat, C.2.2.1 g = (b : Int) := ⟨(C.2.2.1 g).toNat, by omega⟩
    have hb24 : b < 24 := by omega
    rcases hnew g hg b hb24 hb with ⟨p, p1, p2, p3, p4⟩ | ⟨p1, p2, p3⟩
    · rcases hnew g2 hg2 b hb24 (by omega) with ⟨u, u1, u2, u3, u4⟩ | ⟨u1, u2, u3⟩
      · have hpu : p ≠ u := fun e => by subst e; exact hne (p2.symm.trans u2)
        have a1 := (q1 p p1).2.1
        have a2 := (q1 u u1).2.1
        rw [p2] at a1
        rw [u2] at a2
        rw [a1, a2]
        have z1 := hz p p1
        have z2 := hz u u1
        rw [p2] at z1
        rw [u2] at z2
        have l1 := hL p p1
        have l2 := hL u u1
        rw [p2] at l1
        rw [u2] at l2
        rcases (show p < u ∨ u < p by omega) with c | c
        · have := h3 p u c u1 (by omega)
          omega
        · have := h3 u p c p1 (by omega)
          omega
      · exact absurd u3 ((H.tpB1 (hF0T b hb24 p4)).2 g2 hg2 u2)
    · rcases hnew g2 hg2 b hb24 (by omega) with ⟨u, u1, u2, u3, u4⟩ | ⟨u1, u2, u3⟩
      · exact absurd p3 ((H.tpB1 (hF0T b hb24 u4)).2 g hg p2)
      · have a1 := (q2 g p1).2.1
        have a2 := (q2 g2 u1).2.1
        rw [a1, a2]
        exact H.2.2.2 g g2 hg hg2 hne (by omega) (by omega)
  · unfold emN cntK
    refine sumN_sub 24 (fun b hb => ?_)
    rw [hrb3 b hb, hKf b hb, ← H.kind hb]
    by_cases h20 : K b = 2
    · cases ht : tpB K B W b with
      | true =>
        have hf0 : F0 b = 0 := by rw [hF b hb, ht]; rfl
        have h9 := h4 b hb hf0
        by_cases he : F2 b = 0
        · have h10 : tkA Z C.2.2.1 C.2.1 (b : Int) (-1) = 0 := (htk b).mpr fun g hg q => by
            rcases hnew g hg b hb q with ⟨q5, q6, q7, q8, -⟩ | ⟨-, u2, u3⟩
            · exact h9.mp he q5 q6 q8
            · exact (H.tpB1 ht).2 g hg u2 u3
          rw [if_pos ⟨h20, h10⟩, decide_eq_true he, decide_eq_true h20]
          rfl
        · have h10 : tkA Z C.2.2.1 C.2.1 (b : Int) (-1) ≠ 0 := fun q => he (h9.mpr fun q5 q6 q7 => by
            refine (htk b).mp q ((srL r 150).getD q5 0) ((H.srp (i := q5) (by omega)).1) ?_
            rw [(q1 q5 q6).2.2]
            exact q7)
          rw [if_neg (fun q => h10 q.2), decide_eq_false he, decide_eq_true h20]
          rfl
      | false =>
        have hf16 : F0 b = 16 := by rw [hF b hb, ht]; rfl
        obtain ⟨g, hg, hgB, hgW⟩ := DR.tpB0 (K := K) (B := B) (W := W) h20 ht
        have hgn : ∀ q, q < n → (srL r 150).getD q 0 ≠ g := fun q hq e => by
          have := (hz q hq).2.2
          rw [e] at this
          omega
        have h10 : tkA Z C.2.2.1 C.2.1 (b : Int) (-1) ≠ 0 := fun q => (htk b).mp q g hg (by rw [(q2 g hgn).2.2]; exact hgB)
        rw [if_neg (fun q => h10 q.2), (h2 b hb).1 hf16, decide_eq_true h20]
        rfl
    · have hf16 : F2 b = 16 := by
        refine (h2 b hb).1 ?_
        rw [hF b hb]
        cases ht : tpB K B W b with
        | true => exact absurd (H.tpB1 ht).1 h20
        | false => rfl
      rw [if_neg (fun q => h20 q.1), hf16, decide_eq_false h20]
      rfl
  · unfold pkZ
    rw [rs_ne (by decide), z3 0 (by decide), h8 0 (by decide)]
  · unfold pkZ
    rw [rs_eq, z3 1 (by decide), h8 1 (by decide)]
  · unfold pkZ
    rw [rs_ne (by decide), z3 2 (by decide), h8 2 (by decide)]
end REL
