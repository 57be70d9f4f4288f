def mlg (r : Nat → Int) : Nat := maxN (lgF r) 24
theorem gapF_mlg {r : Nat → Int} {t : Int} (h : 1 ≤ t) : gapF r t ≠ -1 ↔ t ≤ ((mlg r : Nat) : Int) := by
  unfold gapF
  rw [gfN_iff (gapK_le r) 384]
  constructor
  · rintro ⟨k, hk, hc⟩
    have h1 : gapK r k ≤ lgF r (k / 16) := maxN_ge (g := gapAt (decide (r (3 + k / 16) = 2)) (tkC r (k / 16))) 16 (k % 16) (by omega)
    have h2 : lgF r (k / 16) ≤ mlg r := maxN_ge 24 (k / 16) (by omega)
    omega
  · intro hc
    rcases maxN_at (g := lgF r) 24 with h1 | ⟨b, hb, h1⟩
    · have : mlg r = 0 := h1
      omega
    · have h2 : mlg r = lgF r b := h1
      rcases maxN_at (g := gapAt (decide (r (3 + b) = 2)) (tkC r b)) 16 with h3 | ⟨c, hc2, h3⟩
      · have : lgF r b = 0 := h3
        omega
      · have h4 : lgF r b = gapAt (decide (r (3 + b) = 2)) (tkC r b) c := h3
        refine ⟨16 * b + c, by omega, ?_⟩
        have h5 : gapK r (16 * b + c) = gapAt (decide (r (3 + b) = 2)) (tkC r b) c := by
          unfold gapK
          rw [show (16 * b + c) / 16 = b by omega, show (16 * b + c) % 16 = c by omega]
        omega
theorem lowF_cnt {r : Nat → Int} : lowF r ≠ -1 ↔ 0 < cntK r 0 := by
  have h := sumB_0 (p := fun b => decide (r (3 + b) = 0)) 24
  have hc : cntK r 0 = sumN (fun b => Bi (decide (r (3 + b) = 0))) 24 := rfl
  rcases firstN_cases (fun b => decide (r (3 + b) = 0)) 24 with ⟨h1, h2⟩ | ⟨i, h1, h2, h3, -⟩
  · have h3 : lowF r = -1 := h1
    have := h.mpr h2
    omega
  · have h4 : lowF r = (i : Int) := h2
    have h5 : ¬ cntK r 0 ≤ 0 := fun q => by
      have := h.mp (by rw [← hc]; exact q) i h1
      rw [this] at h3
      cases h3
    omega
theorem maxN_congr {g g2 : Nat → Nat} : ∀ n, (∀ i, i < n → g i = g2 i) → maxN g n = maxN g2 n := by
  intro n
  induction n with
  | zero => intro _; rfl
  | succ n ih =>
    intro h
    show (if maxN g n < g n then g n else maxN g n) = (if maxN g2 n < g2 n then g2 n else maxN g2 n)
    rw [ih (fun i hi => h i (by omega)), h n (by omega)]
theorem twS_lo {R : Nat → Int} {f j : Nat} (hj : j < 3) : twS R f j = R j := by
  unfold twS
  rw [rs_ne (by omega), rs_ne (by omega), rs_ne (by omega)]
theorem ptR_lo {R : Nat → Int} {f j : Nat} {c : Int} (hj : j < 3) : ptR R f c j = R j := by
  unfold ptR
  rw [rs_ne (by omega), rs_ne (by omega), rs_ne (by omega), rs_ne (by omega), rs_ne (by omega)]
theorem frR_lo {R : Nat → Int} {b j : Nat} (hj : j < 3) : frR R b j = R j := by
  unfold frR
  split
  · rw [rs_ne (by omega)]
  · rfl
theorem tkR_lo {R : Nat → Int} {f j : Nat} (hj : j < 3) : tkR R f j = R j := by
  have h : tk0 R f j = R j := by
    unfold tk0
    rw [rs_ne (by omega), rs_ne (by omega), rs_ne (by omega)]
  unfold tkR
  split
  · rw [frR_lo hj, h]
  · exact h
theorem dwN_lo {f j : Nat} (hj : j < 3) : ∀ n R, dwN R f n j = R j := by
  intro n
  induction n with
  | zero => intro R; rfl
  | succ n ih =>
    intro R
    show dwN (dwS R f) f n j = R j
    rw [ih]
    unfold dwS
    rw [rs_ne (by omega), rs_ne (by omega)]
theorem tw3_s (f : Int) : ∀ (n : Nat) (K O Rk : Nat → Int) (r0 : Nat), tw3 f K O Rk r0 (n + 1) = tw3 f (tawK K) (tawO K O f) (tawO K Rk (r0 : Int)) (r0 + 1) n := by
  intro n
  induction n with
  | zero => intro K O Rk r0; rfl
  | succ n ih =>
    intro K O Rk r0
    have h1 : tw3 f K O Rk r0 (n + 1 + 1) = (tawK (tw3 f K O Rk r0 (n + 1)).1, tawO (tw3 f K O Rk r0 (n + 1)).1 (tw3 f K O Rk r0 (n + 1)).2.1 f, tawO (tw3 f K O Rk r0 (n + 1)).1 (tw3 f K O Rk r0 (n + 1)).2.2 ((r0 + (n + 1) : Nat) : Int)) := rfl
    have h2 : ∀ K O Rk, tw3 f K O Rk (r0 + 1) (n + 1) = (tawK (tw3 f K O Rk (r0 + 1) n).1, tawO (tw3 f K O Rk (r0 + 1) n).1 (tw3 f K O Rk (r0 + 1) n).2.1 f, tawO (tw3 f K O Rk (r0 + 1) n).1 (tw3 f K O Rk (r0 + 1) n).2.2 ((r0 + 1 + n : Nat) : Int)) := fun _ _ _ => rfl
    rw [h1, h2, ih, show r0 + 1 + n = r0 + (n + 1) by omega]
section REL
variable {K O Rk Z B S W P r K2 O2 Rk2 Z2 P2 r2 : Nat → Int}
theorem DR.lg_same (H : DR K O Rk Z B S W P r) (H2 : DR K2 O2 Rk2 Z2 B S W P2 r2) (hK : ∀ b, b < 24 → (K2 b = 2 ↔ K b = 2)) (hZ : ∀ g, g < 10 → B g ≠ -1 → Z2 g = Z g) : mlg r2 = mlg r := by
  refine maxN_congr 24 (fun b hb => ?_)
  have h1 := H.lg hb
  have h2 := H2.lg hb
  have h3 : tkA Z2 B S (b : Int) (-1) = tkA Z B S (b : Int) (-1) := tkA_Z (fun g hg hB => hZ g hg (by omega))
  rw [h3] at h2
  by_cases h : K b = 2
  · rw [if_pos h] at h1
    rw [if_pos ((hK b hb).mpr h)] at h2
    omega
  · rw [if_neg h] at h1
    rw [if_neg (fun q => h ((hK b hb).mp q))] at h2
    omega
theorem DR.s2n {f : Nat} (hf : f < 10) (hw : W f = 0) (hB : B f = -1) : ∀ (n w : Nat) (K O Rk Z r : Nat → Int), DR K O Rk Z B S W P r → Z f = 16 * (w : Int) → 16 * (w + n) ≤ 200 →
    ((n : Int) ≤ cntK r 0 → ∃ r2, twO r f n = some r2 ∧ DR (tw3 (f : Int) K O Rk w n).1 (tw3 (f : Int) K O Rk w n).2.1 (tw3 (f : Int) K O Rk w n).2.2 (rs Z f (16 * ((w + n : Nat) : Int))) B S W P r2 ∧ cntK r2 0 = cntK r 0 - n ∧ mlg r2 = mlg r ∧ ∀ j, j < 3 → r2 j = r j) ∧ (cntK r 0 < (n : Int) → twO r f n = none) := by
  intro n
  induction n with
  | zero =>
    intro w K O Rk Z r H hz _
    refine ⟨fun _ => ⟨r, rfl, ?_, by omega, rfl, fun _ _ => rfl⟩, fun q => ?_⟩
    · refine H.congr (fun b _ => ⟨rfl, rfl, rfl⟩) (fun g hg => ⟨?_, rfl, rfl, rfl, rfl⟩) (fun j _ => rfl)
      by_cases e : g = f
      · subst e; rw [rs_eq, hz]; omega
      · rw [rs_ne e]
    · have := (cntK_bd r 0).1
      omega
  | succ n ih =>
    intro w K O Rk Z r H hz h200
    by_cases hl : lowF r = -1
    · have h0 : cntK r 0 ≤ 0 := by
        refine Decidable.byContradiction fun q => ?_
        exact lowF_cnt.mpr (by omega) hl
      exact ⟨fun q => by omega, fun _ => twO_n hl⟩
    · obtain ⟨H1, hc⟩ := H.s2 hf (by omega) (by omega) (by omega) hw hl
      obtain ⟨b0, hb0, hlo, hk0⟩ := lowF_at hl
      have hKb0 : K b0 = 0 := by rw [H.kind hb0]; exact hk0
      have hlf : lfN K = (b0 : Int) := by rw [H.lf]; exact hlo
      have hK2 : ∀ b, b < 24 → (tawK K b = 2 ↔ K b = 2) := fun b _ => by
        unfold tawK
        rw [hlf, if_neg (by omega), Int.toNat_natCast]
        by_cases e : b = b0
        · subst e; rw [rs_eq]; omega
        · rw [rs_ne e]
      have hm := H.lg_same H1 hK2 (fun g _ hg => rs_ne (fun e => hg (by rw [e]; exact hB)) _)
      rw [show Z f / 16 = ((w : Nat) : Int) by omega] at H1
      obtain ⟨i1, i2⟩ := ih (w + 1) _ _ _ _ _ H1 (by rw [rs_eq, hz]; omega) (by omega)
      rw [twO_s hl, tw3_s]
      refine ⟨fun q => ?_, fun q => i2 (by omega)⟩
      obtain ⟨r2, q1, q2, q3, q4, q5⟩ := i1 (by omega)
      refine ⟨r2, q1, ?_, by omega, by rw [q4, hm], fun j hj => by rw [q5 j hj, twS_lo hj]⟩
      rw [rs_rs, show w + 1 + n = w + (n + 1) by omega] at q2
      exact q2
/-- the new tail placed, if there is one -/
theorem DR.put {f s : Nat} (H2 : DR K O Rk (rs Z f (16 * ((s / 16 : Nat) : Int))) (rs B f (-1)) (rs S f (-1)) W P r) (hf : f < 10) (hs : s ≤ 200) (hw : W f = 0) {rule p : Int} (hr : rule = r 2)
    (hp : p = if s % 16 = 0 then -1 else plN K (rs Z f (s : Int)) (rs B f (-1)) (rs S f (-1)) rule ((s % 16 : Nat) : Int)) :
    ((s % 16 = 0 ∨ ((s % 16 : Nat) : Int) ≤ ((mlg r : Nat) : Int) ∨ 0 < cntK r 0) → ∃ r3, ptO r f ((s % 16 : Nat) : Int) = some r3 ∧
      DR (if p = -1 then K else rs K (p / 16).toNat 2) O Rk (rs Z f (s : Int)) (if p = -1 then rs B f (-1) else rs (rs B f (-1)) f (p / 16)) (if p = -1 then rs S f (-1) else rs (rs S f (-1)) f (p % 16)) W (if p = -1 then P else rs P f (wr (P f + 1))) r3 ∧ ∀ j, j < 3 → r3 j = r j) ∧
    (¬ (s % 16 = 0 ∨ ((s % 16 : Nat) : Int) ≤ ((mlg r : Nat) : Int) ∨ 0 < cntK r 0) → ptO r f ((s % 16 : Nat) : Int) = none) := by
  by_cases h0 : s % 16 = 0
  · rw [if_pos h0] at hp
    refine ⟨fun _ => ⟨r, ptO_0 (by rw [h0]; rfl), ?_, fun _ _ => rfl⟩, fun q => absurd (Or.inl h0) q⟩
    rw [if_pos hp, if_pos hp, if_pos hp, if_pos hp]
    refine H2.congr (fun b _ => ⟨rfl, rfl, rfl⟩) (fun g hg => ⟨?_, rfl, rfl, rfl, rfl⟩) (fun j _ => rfl)
    by_cases e : g = f
    · subst e; rw [rs_eq, rs_eq]; omega
    · rw [rs_ne e, rs_ne e]
  · rw [if_neg h0, plN_Z (Z2 := rs Z f (16 * ((s / 16 : Nat) : Int))) (fun g _ hg => by
      have e : g ≠ f := fun e => hg (by rw [e]; exact rs_eq _ _ _)
      rw [rs_ne e, rs_ne e]), H2.pl hr] at hp
    have hiff : plcF r ((s % 16 : Nat) : Int) ≠ -1 ↔ (((s % 16 : Nat) : Int) ≤ ((mlg r : Nat) : Int) ∨ 0 < cntK r 0) := by
      have g1 := gapF_mlg (r := r) (t := ((s % 16 : Nat) : Int)) (by omega)
      have g2 := lowF_cnt (r := r)
      have g3 := (lowF_bd r).1
      unfold plcF
      by_cases hg : gapF r ((s % 16 : Nat) : Int) ≠ -1
      · rw [if_pos hg]
        exact ⟨fun _ => Or.inl (g1.mp hg), fun _ => hg⟩
      · rw [if_neg hg]
        by_cases hl : lowF r = -1
        · rw [if_pos hl]
          refine ⟨fun q => absurd rfl q, fun q => ?_⟩
          rcases q with q | q
          · exact absurd (g1.mpr q) hg
          · exact absurd hl (g2.mpr q)
        · rw [if_neg hl]
          exact ⟨fun _ => Or.inr (g2.mp hl), fun _ => by omega⟩
    refine ⟨fun q => ?_, fun q => ptO_n (by omega) (Decidable.byContradiction fun q2 => q (Or.inr (hiff.mp q2)))⟩
    have hne : plcF r ((s % 16 : Nat) : Int) ≠ -1 := hiff.mpr (by
      rcases q with q | q
      · exact absurd q h0
      · exact q)
    refine ⟨ptR r f ((s % 16 : Nat) : Int), ptO_s (by omega) hne, ?_, fun j hj => ptR_lo hj⟩
    obtain ⟨b0, s0, a1, a2, a3, a4⟩ := plcF_at H2 (c := s % 16) (by omega) hne
    have hz2 : rs Z f (16 * ((s / 16 : Nat) : Int)) f = 16 * ((s / 16 : Nat) : Int) := rs_eq _ _ _
    have H3 := H2.s4 hf (by omega) (by omega) (c := s % 16) (by omega) (by omega) hw a1 a2 a3 a4
    rw [hp, a3, if_neg (by omega), if_neg (by omega), if_neg (by omega), if_neg (by omega), show ((16 * b0 + s0 : Nat) : Int) / 16 = (b0 : Int) by omega, show ((16 * b0 + s0 : Nat) : Int) % 16 = (s0 : Int) by omega, Int.toNat_natCast]
    rw [rs_rs, hz2, show 16 * ((s / 16 : Nat) : Int) + ((s % 16 : Nat) : Int) = (s : Int) by omega] at H3
    exact H3
/-- a file made greater, or made: its tail is away -/
theorem DR.rbU {f z s : Nat} {rule : Int} (H1 : DR (dtK K Z B S f) O Rk (rs Z f (16 * ((z / 16 : Nat) : Int))) (rs B f (-1)) (rs S f (-1)) W P r) (hf : f < 10) (hs : s ≤ 200) (hzs : z / 16 ≤ s / 16) (hw : W f = 0) (hr : rule = r 2) :
    ((((s / 16 - z / 16 : Nat) : Int) < cntK r 0 ∨ (cntK r 0 = ((s / 16 - z / 16 : Nat) : Int) ∧ ((s % 16 : Nat) : Int) ≤ ((mlg r : Nat) : Int))) → ∃ r3, (twO r f (s / 16 - z / 16)).bind (fun R2 => ptO R2 f ((s % 16 : Nat) : Int)) = some r3 ∧
      DR (rbK f K Z B S O Rk rule z s) (rbD f K Z B S O Rk z s).2.1 (rbD f K Z B S O Rk z s).2.2.1 (rs Z f (s : Int)) (rbB f K Z B S O Rk rule z s) (rbS f K Z B S O Rk rule z s) W (rbQ f K Z B S O Rk P rule z s) r3 ∧ ∀ j, j < 3 → r3 j = r j) ∧
    (¬ (((s / 16 - z / 16 : Nat) : Int) < cntK r 0 ∨ (cntK r 0 = ((s / 16 - z / 16 : Nat) : Int) ∧ ((s % 16 : Nat) : Int) ≤ ((mlg r : Nat) : Int))) → (twO r f (s / 16 - z / 16)).bind (fun R2 => ptO R2 f ((s % 16 : Nat) : Int)) = none) := by
  obtain ⟨i1, i2⟩ := DR.s2n (B := rs B f (-1)) (S := rs S f (-1)) (W := W) (P := P) hf hw (rs_eq _ _ _) (s / 16 - z / 16) (z / 16) _ _ _ _ _ H1 (rs_eq _ _ _) (by omega)
  by_cases hn : ((s / 16 - z / 16 : Nat) : Int) ≤ cntK r 0
  · obtain ⟨r2, q1, q2, q3, q4, q5⟩ := i1 hn
    rw [rs_rs, show z / 16 + (s / 16 - z / 16) = s / 16 by omega] at q2
    have H2 := q2.s3d (w := s / 16) (n := 0) hf hw (rs_eq _ _ _) (Nat.zero_le _)
    rw [rs_rs, show s / 16 - 0 = s / 16 from rfl, show dwN r2 f 0 = r2 from rfl] at H2
    have H2 : DR (rbD f K Z B S O Rk z s).1 (rbD f K Z B S O Rk z s).2.1 (rbD f K Z B S O Rk z s).2.2.1 (rs Z f (16 * ((s / 16 : Nat) : Int))) (rs B f (-1)) (rs S f (-1)) W P r2 := H2
    obtain ⟨j1, j2⟩ := H2.put hf hs hw (rule := rule) (p := rbP f K Z B S O Rk rule z s) (by rw [hr, q5 2 (by decide)]) rfl
    rw [q1]
    refine ⟨fun q => ?_, fun q => ?_⟩
    · obtain ⟨r3, k1, k2, k3⟩ := j1 (by omega)
      exact ⟨r3, k1, k2, fun j hj => by rw [k3 j hj, q5 j hj]⟩
    · exact j2 (by omega)
  · rw [i2 (by omega)]
    exact ⟨fun q => by omega, fun _ => rfl⟩
-- enough room
theorem DR.tkn (H : DR K O Rk Z B S W P r) {b : Nat} (hb : b < 24) (h : K b = 2) : tkA Z B S (b : Int) (-1) ≠ 0 := fun q => by
  obtain ⟨g, hg, h1⟩ := (H.2.1 b hb).2.2.2.2.2.1 h
  exact (tkA_0 (fun g hg hB => by have := H.S1 (b := (b : Int)) (by omega) g hg hB; exact ⟨this.1, fun _ => this.2⟩)).mp q g hg (by omega) h1
theorem ieN_of {K0 Z0 B0 S0 : Nat → Int} {lo : Int} (H : DR K O Rk Z B S W P r) (h : ∀ b, b < 24 → ieT K0 Z0 B0 S0 lo b = (if K b = 2 then tkA Z B S (b : Int) (-1) else 0) ∧ (((K0 b = 0 ∨ K0 b = 2) ∧ ieT K0 Z0 B0 S0 lo b = 0) ↔ K b = 0)) :
    ∀ n, n ≤ 24 → (((ieN K0 Z0 B0 S0 lo n).1 : Nat) : Int) = sumN (fun b => Bi (decide (r (3 + b) = 0))) n ∧ (ieN K0 Z0 B0 S0 lo n).2 = maxN (lgF r) n := by
  intro n
  induction n with
  | zero => intro _; exact ⟨rfl, rfl⟩
  | succ n ih =>
    intro hn
    obtain ⟨i1, i2⟩ := ih (by omega)
    obtain ⟨h1, h2⟩ := h n (by omega)
    have hk := H.kind (b := n) (by omega)
    have hl := H.lg (b := n) (by omega)
    have hs : ∀ x, sumN (fun b => Bi (decide (r (3 + b) = 0))) (n + 1) = x ↔ sumN (fun b => Bi (decide (r (3 + b) = 0))) n + Bi (decide (r (3 + n) = 0)) = x := fun x => Iff.rfl
    have hm : maxN (lgF r) (n + 1) = max (maxN (lgF r) n) (lgF r n) := by
      show (if maxN (lgF r) n < lgF r n then lgF r n else maxN (lgF r) n) = _
      split <;> omega
    rw [hm]
    show (((if ieT K0 Z0 B0 S0 lo n ≠ 0 then ((ieN K0 Z0 B0 S0 lo n).1, max (ieN K0 Z0 B0 S0 lo n).2 (lgN ((ieT K0 Z0 B0 S0 lo n : Nat) : Int) 16).1) else if K0 n = 0 ∨ K0 n = 2 then ((ieN K0 Z0 B0 S0 lo n).1 + 1, (ieN K0 Z0 B0 S0 lo n).2) else ieN K0 Z0 B0 S0 lo n).1 : Nat) : Int) = sumN (fun b => Bi (decide (r (3 + b) = 0))) n + Bi (decide (r (3 + n) = 0)) ∧ (if ieT K0 Z0 B0 S0 lo n ≠ 0 then ((ieN K0 Z0 B0 S0 lo n).1, max (ieN K0 Z0 B0 S0 lo n).2 (lgN ((ieT K0 Z0 B0 S0 lo n : Nat) : Int) 16).1) else if K0 n = 0 ∨ K0 n = 2 then ((ieN K0 Z0 B0 S0 lo n).1 + 1, (ieN K0 Z0 B0 S0 lo n).2) else ieN K0 Z0 B0 S0 lo n).2 = _
    by_cases ht : ieT K0 Z0 B0 S0 lo n = 0
    · rw [if_neg (fun q => q ht)]
      have hn2 : K n ≠ 2 := fun q => by
        rw [if_pos q] at h1
        exact H.tkn (by omega) q (by omega)
      rw [if_neg hn2] at hl
      by_cases h0 : K0 n = 0 ∨ K0 n = 2
      · rw [if_pos h0, ← hk, decide_eq_true (h2.mp ⟨h0, ht⟩), ← i1]
        refine ⟨?_, ?_⟩
        · show (((ieN K0 Z0 B0 S0 lo n).1 + 1 : Nat) : Int) = _ + 1
          omega
        · show (ieN K0 Z0 B0 S0 lo n).2 = _
          omega
      · rw [if_neg h0, ← hk, decide_eq_false (fun q => h0 (h2.mpr q).1), ← i1]
        refine ⟨?_, ?_⟩
        · show _ = _ + (0 : Int)
          omega
        · omega
    · rw [if_pos ht]
      have h3 : K n = 2 := Decidable.byContradiction fun q => by
        rw [if_neg q] at h1
        exact ht h1
      rw [if_pos h3] at hl h1
      rw [← hk, decide_eq_false (by omega), ← i1, h1, ← i2]
      refine ⟨?_, ?_⟩
      · show _ = _ + (0 : Int)
        show (((ieN K0 Z0 B0 S0 lo n).1 : Nat) : Int) = _
        omega
      · show max _ _ = max _ _
        omega
theorem DR.ie0 (H : DR K O Rk Z B S W P r) : (((ieN K Z B S (-1) 24).1 : Nat) : Int) = cntK r 0 ∧ (ieN K Z B S (-1) 24).2 = mlg r := by
  refine ieN_of H (fun b hb => ?_) 24 (Nat.le_refl _)
  unfold ieT
  refine ⟨rfl, ?_⟩
  by_cases h : K b = 2
  · rw [if_pos h]
    have := H.tkn hb h
    omega
  · rw [if_neg h]
    omega
theorem DR.ie1 (H : DR K O Rk Z B S W P r) {f : Nat} (hf : f < 10) (hz : Z f ≠ -1) : (((ieN K Z B S (f : Int) 24).1 : Nat) : Int) = cntK (tkR r f) 0 ∧ (ieN K Z B S (f : Int) 24).2 = mlg (tkR r f) := by
  have H1 := H.s1 hf hz
  refine ieN_of H1 (fun b hb => ?_) 24 (Nat.le_refl _)
  have hd := H.dt hf hb
  have ht : tkA Z B S (b : Int) (f : Int) = tkA (rs Z f (16 * (Z f / 16))) (rs B f (-1)) (rs S f (-1)) (b : Int) (-1) := tkF_lo (by omega) 10
  have hkk := (H.2.1 b hb).2.1
  unfold ieT
  rw [ht]
  by_cases h : K b = 2
  · rw [if_pos h]
    by_cases hc : B f = (b : Int) ∧ K b = 2 ∧ noT B f b = true
    · rw [if_pos hc] at hd
      rw [hd, if_neg (by decide)]
      have h0 : tkA (rs Z f (16 * (Z f / 16))) (rs B f (-1)) (rs S f (-1)) (b : Int) (-1) = 0 := (tkA_0 (fun g hg hB => by have := H1.S1 (b := (b : Int)) (by omega) g hg hB; exact ⟨this.1, fun _ => this.2⟩)).mpr (fun g hg _ => by
        by_cases e : g = f
        · subst e; rw [rs_eq]; omega
        · rw [rs_ne e]; exact noT_iff.mp hc.2.2 g hg e)
      rw [h0]
      omega
    · rw [if_neg hc] at hd
      rw [hd, if_pos h]
      have := H1.tkn hb (by rw [hd]; exact h)
      omega
  · rw [if_neg h]
    rw [if_neg (fun q => h q.2.1)] at hd
    rw [hd, if_neg h]
    omega
end REL
