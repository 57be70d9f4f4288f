/-! .. where the cells of all files are -/
/-- how many cells of a file the law looks at -/
def szF (r : Nat → Int) (f : Nat) : Nat := if ro r f 0 = 1 then (ro r f 1).toNat else 0
/-- the law's bits of taken cells, with the first c cells of a file -/
def cuX (r : Nat → Int) (f : Nat) (X : Nat → Int) : Nat → (Nat → Int)
  | 0 => X
  | c + 1 => if plO r f c < 0 then cuX r f X c else rs (cuX r f X c) (plO r f c / 16).toNat (((cuX r f X c (plO r f c / 16).toNat).toNat ||| (1 * 2 ^ (plO r f c % 16).toNat : Int).toNat : Nat) : Int)
def cuC (r : Nat → Int) (f : Nat) : Nat → Nat
  | 0 => 0
  | c + 1 => cuC r f c + (if plO r f c < 0 then 0 else 1)
def cuL (r : Nat → Int) (f : Nat) (n : Nat) : Bool := orN (fun c => decide (plO r f c < 0)) n
def fiX (r : Nat → Int) : Nat → (Nat → Int)
  | 0 => fun _ => 0
  | f + 1 => cuX r f (fiX r f) (szF r f)
def fiC (r : Nat → Int) : Nat → Nat
  | 0 => 0
  | f + 1 => fiC r f + cuC r f (szF r f)
/-- a cell of the disk that the law has seen taken -/
def ocP (r : Nat → Int) (f c q : Nat) : Prop := ∃ g c2, (g < f ∨ (g = f ∧ c2 < c)) ∧ g < 10 ∧ c2 < szF r g ∧ plO r g c2 = (q : Int)
def OC (X r : Nat → Int) (f c : Nat) : Prop := (∀ b, b < 24 → 0 ≤ X b ∧ X b < 65536) ∧ ∀ q, q < 384 → ((X (q / 16)).toNat.testBit (q % 16) = true ↔ ocP r f c q)
theorem two_tb {i c : Nat} : (2 ^ i).testBit c = decide (i = c) := by
  rw [Nat.testBit_two_pow]
theorem pow_toNat (i : Nat) : (1 * 2 ^ i : Int).toNat = 2 ^ i := by
  have e : (1 * 2 ^ i : Int) = ((2 ^ i : Nat) : Int) := by
    rw [Int.one_mul]
    exact (Int.natCast_pow 2 i).symm
  rw [e, Int.toNat_natCast]
theorem or_lt {x i : Nat} (hx : x < 65536) (hi : i < 16) : x ||| 2 ^ i < 65536 := Nat.or_lt_two_pow (n := 16) hx (Nat.pow_lt_pow_right (by decide) hi)
theorem lgN_congr {t t2 : Int} : ∀ n, (∀ c, c < n → btB t c = btB t2 c) → lgN t n = lgN t2 n := by
  intro n
  induction n with
  | zero => intro _; rfl
  | succ n ih =>
    intro h
    have h1 := ih (fun c hc => h c (by omega))
    have h2 := h n (by omega)
    unfold lgN
    rw [h1, h2]
theorem pcN_congr {x y : Nat} : ∀ n, (∀ c, c < n → x.testBit c = y.testBit c) → pcN x n = pcN y n := by
  intro n
  induction n with
  | zero => intro _; rfl
  | succ n ih =>
    intro h
    rw [pcN_tb, pcN_tb, ih (fun c hc => h c (by omega)), h n (by omega)]
theorem pcN_all {x : Nat} : ∀ n, (∀ c, c < n → x.testBit c = true) → pcN x n = n := by
  intro n
  induction n with
  | zero => intro _; rfl
  | succ n ih =>
    intro h
    rw [pcN_tb, ih (fun c hc => h c (by omega)), h n (by omega)]
    rfl
theorem pcN_nil {x : Nat} : ∀ n, (∀ c, c < n → x.testBit c = false) → pcN x n = 0 := by
  intro n
  induction n with
  | zero => intro _; rfl
  | succ n ih =>
    intro h
    rw [pcN_tb, ih (fun c hc => h c (by omega)), h n (by omega)]
    rfl
theorem pcN_one {x i : Nat} (hi : i < 16) (h : x.testBit i = false) : pcN (x ||| 2 ^ i) 16 = pcN x 16 + 1 := by
  rw [pcN_or 16 (fun c _ q => by
    have q2 := q.2
    rw [two_tb] at q2
    have e := of_decide_eq_true q2
    subst e
    rw [h] at q
    exact Bool.false_ne_true q.1)]
  rw [pcN_iv (x := 2 ^ i) (s := i) (t := 1) (fun c _ => by
    rw [two_tb]
    exact decide_eq_decide.mpr (by omega)) (by omega) 16 (Nat.le_refl _)]
  omega
section P30D
variable {K O Rk Z B S W P r : Nat → Int}
theorem szF_yes (H : DR K O Rk Z B S W P r) {f : Nat} (hf : f < 10) (hfi : ro r f 0 = 1) : ((szF r f : Nat) : Int) = ro r f 1 ∧ ro r f 1 = Z f ∧ 0 ≤ Z f ∧ Z f ≤ 200 := by
  have hz := H.zf hf hfi
  obtain ⟨-, w1, -, -, w4, w5⟩ := H.wf hf hz
  unfold szF
  rw [if_pos hfi, w1]
  exact ⟨by omega, rfl, w4, w5⟩
theorem szF_in {f c : Nat} (h : c < szF r f) : ro r f 0 = 1 := by
  unfold szF at h
  split at h
  · assumption
  · omega
/-- a cell's place: in a whole block, or in a tail's -/
theorem DR.plc (H : DR K O Rk Z B S W P r) {f c : Nat} (hf : f < 10) (hc : c < szF r f) :
    ∃ b : Nat, b < 24 ∧ ((K b = 3 ∧ W f = 1 ∧ plO r f c = -1) ∨
      (K b = 1 ∧ O b = (f : Int) ∧ Rk b = ((c / 16 : Nat) : Int) ∧ ((c / 16 : Nat) : Int) < Z f / 16 ∧ plO r f c = ((16 * b + c % 16 : Nat) : Int)) ∨
      (K b = 2 ∧ B f = (b : Int) ∧ ((c / 16 : Nat) : Int) = Z f / 16 ∧ 0 ≤ S f ∧ S f + Z f % 16 ≤ 16 ∧ ((c % 16 : Nat) : Int) < Z f % 16 ∧ plO r f c = 16 * (b : Int) + ((c % 16 : Nat) : Int) + S f)) := by
  have hfi := szF_in hc
  obtain ⟨s1, s2, s3, s4⟩ := szF_yes H hf hfi
  by_cases ht : ((c / 16 : Nat) : Int) = ro r f 1 / 16
  · have hB : B f ≠ -1 := by
      rcases H.tlB hf hfi with q | q <;> omega
    obtain ⟨-, -, -, e2, e3, e4, e5, e6, e7⟩ := (H.1 f hf).tl hB
    obtain ⟨b, hb⟩ : ∃ b : Nat, B f = (b : Int) := ⟨(B f).toNat, by omega⟩
    obtain ⟨k0, -, -, -, -, -, d7, d8⟩ := H.2.1 b (by omega)
    have ep : plB r f c = (b : Int) := by
      unfold plB
      rw [if_pos ht, ← e3, hb]
    refine ⟨b, by omega, ?_⟩
    unfold plO
    rw [ep, Int.toNat_natCast, ← k0, if_pos ht, ← e4]
    rcases d7 f hf hb with q | q
    · rw [if_neg (by omega)]
      exact Or.inr (Or.inr ⟨q, hb, by omega, by omega, by omega, by omega, rfl⟩)
    · rw [if_pos q]
      exact Or.inl ⟨q, d8 q f hf (Or.inr hb), rfl⟩
  · have hk : ((c / 16 : Nat) : Int) < Z f / 16 := by omega
    obtain ⟨b, b1, b2, b3, b4⟩ := H.2.2.1 f hf (c / 16) hk
    obtain ⟨k0, -, -, d4, -, -, -, d8⟩ := H.2.1 b b1
    have ep : plB r f c = (b : Int) := by
      unfold plB
      rw [if_neg ht]
      exact b2
    refine ⟨b, b1, ?_⟩
    unfold plO
    rw [ep, Int.toNat_natCast, ← k0, if_neg ht]
    rcases d4 (by omega) with q | q
    · rw [if_neg (by omega)]
      exact Or.inr (Or.inl ⟨q, b3, b4, hk, by omega⟩)
    · rw [if_pos q]
      exact Or.inl ⟨q, d8 q f hf (Or.inl b3), rfl⟩
theorem DR.plc_inj (H : DR K O Rk Z B S W P r) {f c g c2 : Nat} (hf : f < 10) (hc : c < szF r f) (hg : g < 10) (hc2 : c2 < szF r g) (hp : 0 ≤ plO r f c) (he : plO r f c = plO r g c2) : f = g ∧ c = c2 := by
  obtain ⟨b, hb, h1⟩ := H.plc hf hc
  obtain ⟨a, ha, h2⟩ := H.plc hg hc2
  rcases h1 with ⟨-, -, h1⟩ | ⟨k1, o1, r1, l1, p1⟩ | ⟨k1, o1, l1, s1, i1, m1, p1⟩
  · omega
  · rcases h2 with ⟨-, -, h2⟩ | ⟨k2, o2, r2, l2, p2⟩ | ⟨k2, o2, l2, s2, i2, m2, p2⟩
    · omega
    · have e : b = a := by omega
      subst e
      exact ⟨by omega, by omega⟩
    · have e : b = a := by omega
      subst e
      omega
  · rcases h2 with ⟨-, -, h2⟩ | ⟨k2, o2, r2, l2, p2⟩ | ⟨k2, o2, l2, s2, i2, m2, p2⟩
    · omega
    · have e : b = a := by omega
      subst e
      omega
    · have e : b = a := by omega
      subst e
      by_cases hfg : f = g
      · subst hfg
        exact ⟨rfl, by omega⟩
      · have := H.2.2.2 f g hf hg hfg (by omega) (by omega)
        omega
theorem OC_0 : OC (fun _ => 0) r 0 0 := by
  refine ⟨fun b _ => ?_, fun q _ => ⟨fun h => ?_, ?_⟩⟩
  · show (0 : Int) ≤ 0 ∧ (0 : Int) < 65536
    decide
  · have e : ((fun _ => (0 : Int)) (q / 16)).toNat.testBit (q % 16) = false := by
      show (0 : Nat).testBit (q % 16) = false
      exact Nat.zero_testBit _
    rw [e] at h
    cases h
  · rintro ⟨g, c2, h, -⟩
    omega
theorem OC.next {X : Nat → Int} {f : Nat} (h : OC X r f (szF r f)) : OC X r (f + 1) 0 := ⟨h.1, fun q hq => (h.2 q hq).trans ⟨fun ⟨g, c2, a, b⟩ => ⟨g, c2, by omega, b⟩, fun ⟨g, c2, a, b1, b2, b3⟩ => ⟨g, c2, by
  rcases a with a | a
  · by_cases e : g = f
    · subst e
      exact Or.inr ⟨rfl, b2⟩
    · exact Or.inl (by omega)
  · omega, b1, b2, b3⟩⟩⟩
theorem OC.skip {X : Nat → Int} {f c : Nat} (h : OC X r f c) (hp : plO r f c < 0) : OC X r f (c + 1) := ⟨h.1, fun q hq => (h.2 q hq).trans ⟨fun ⟨g, c2, a, b⟩ => ⟨g, c2, by omega, b⟩, fun ⟨g, c2, a, b1, b2, b3⟩ => ⟨g, c2, by
  rcases a with a | a
  · exact Or.inl a
  · by_cases e : c2 = c
    · rw [a.1, e] at b3
      omega
    · exact Or.inr ⟨a.1, by omega⟩, b1, b2, b3⟩⟩⟩
theorem OC.unset (H : DR K O Rk Z B S W P r) {X : Nat → Int} {f c p : Nat} (h : OC X r f c) (hf : f < 10) (hc : c < szF r f) (hp : plO r f c = (p : Int)) (h384 : p < 384) : (X (p / 16)).toNat.testBit (p % 16) = false := by
  cases hb : (X (p / 16)).toNat.testBit (p % 16) with
  | false => rfl
  | true =>
    obtain ⟨g, c2, a, b1, b2, b3⟩ := (h.2 p h384).mp hb
    obtain ⟨e1, e2⟩ := H.plc_inj hf hc b1 b2 (by omega) (by omega)
    omega
theorem OC.put {X : Nat → Int} {f c p : Nat} (h : OC X r f c) (hf : f < 10) (hc : c < szF r f) (hp : plO r f c = (p : Int)) (h384 : p < 384) : OC (rs X (p / 16) (((X (p / 16)).toNat ||| 2 ^ (p % 16) : Nat) : Int)) r f (c + 1) := by
  have hb := h.1 (p / 16) (by omega)
  have hlt := or_lt (x := (X (p / 16)).toNat) (i := p % 16) (by omega) (by omega)
  refine ⟨fun b hb2 => ?_, fun q hq => ?_⟩
  · by_cases e : b = p / 16
    · subst e
      rw [rs_eq]
      omega
    · rw [rs_ne e]
      exact h.1 b hb2
  · have hstep : ocP r f (c + 1) q ↔ (ocP r f c q ∨ q = p) := by
      constructor
      · rintro ⟨g, c2, a, b1, b2, b3⟩
        by_cases e : g = f ∧ c2 = c
        · rw [e.1, e.2] at b3
          exact Or.inr (by omega)
        · exact Or.inl ⟨g, c2, by omega, b1, b2, b3⟩
      · rintro (⟨g, c2, a, b⟩ | e)
        · exact ⟨g, c2, by omega, b⟩
        · exact ⟨f, c, by omega, hf, hc, by omega⟩
    rw [hstep, ← h.2 q hq]
    by_cases e : q / 16 = p / 16
    · rw [e, rs_eq, Int.toNat_natCast, Nat.testBit_or, two_tb, Bool.or_eq_true, decide_eq_true_eq]
      constructor
      · rintro (a | a)
        · exact Or.inl a
        · exact Or.inr (by omega)
      · rintro (a | a)
        · exact Or.inl a
        · exact Or.inr (by omega)
    · rw [rs_ne e]
      exact ⟨Or.inl, fun a => a.elim id (fun a => absurd (by rw [a]) e)⟩
theorem DR.pl384 (H : DR K O Rk Z B S W P r) {f c : Nat} (hf : f < 10) (hc : c < szF r f) : -1 ≤ plO r f c ∧ plO r f c < 384 := by
  obtain ⟨b, hb, h1⟩ := H.plc hf hc
  rcases h1 with ⟨-, -, h1⟩ | ⟨k1, o1, r1, l1, p1⟩ | ⟨k1, o1, l1, s1, i1, m1, p1⟩ <;> omega
/-- all bits that the law has by now, with how many there are -/
theorem DR.cuOC (H : DR K O Rk Z B S W P r) {f : Nat} (hf : f < 10) {X : Nat → Int} (h : OC X r f 0) : ∀ c, c ≤ szF r f → OC (cuX r f X c) r f c ∧ sumN (fun b => ((pcN (cuX r f X c b).toNat 16 : Nat) : Int)) 24 = sumN (fun b => ((pcN (X b).toNat 16 : Nat) : Int)) 24 + ((cuC r f c : Nat) : Int) := by
  intro c
  induction c with
  | zero => intro _; exact ⟨h, (Int.add_zero _).symm⟩
  | succ c ih =>
    intro hc
    obtain ⟨i1, i2⟩ := ih (by omega)
    have hp := H.pl384 hf (show c < szF r f by omega)
    by_cases hn : plO r f c < 0
    · have e1 : cuX r f X (c + 1) = cuX r f X c := if_pos hn
      have e2 : cuC r f (c + 1) = cuC r f c := by
        show cuC r f c + (if plO r f c < 0 then 0 else 1) = _
        rw [if_pos hn]
        rfl
      rw [e1, e2]
      exact ⟨i1.skip hn, i2⟩
    · obtain ⟨p, hp2⟩ : ∃ p : Nat, plO r f c = (p : Int) := ⟨(plO r f c).toNat, by omega⟩
      have e1 : cuX r f X (c + 1) = rs (cuX r f X c) (p / 16) (((cuX r f X c (p / 16)).toNat ||| 2 ^ (p % 16) : Nat) : Int) := by
        show (if plO r f c < 0 then cuX r f X c else rs (cuX r f X c) (plO r f c / 16).toNat (((cuX r f X c (plO r f c / 16).toNat).toNat ||| (1 * 2 ^ (plO r f c % 16).toNat : Int).toNat : Nat) : Int)) = _
        rw [if_neg hn, hp2, show (((p : Nat) : Int) / 16).toNat = p / 16 by omega, show (((p : Nat) : Int) % 16).toNat = p % 16 by omega, pow_toNat]
      have e2 : cuC r f (c + 1) = cuC r f c + 1 := by
        show cuC r f c + (if plO r f c < 0 then 0 else 1) = _
        rw [if_neg hn]
      rw [e1, e2]
      refine ⟨i1.put hf (by omega) hp2 (by omega), ?_⟩
      have hu := OC.unset H i1 hf (show c < szF r f by omega) hp2 (by omega)
      have h4 := sumN_one (g := fun b => ((pcN (cuX r f X c b).toNat 16 : Nat) : Int)) (g2 := fun b => ((pcN (rs (cuX r f X c) (p / 16) (((cuX r f X c (p / 16)).toNat ||| 2 ^ (p % 16) : Nat) : Int) b).toNat 16 : Nat) : Int)) (b0 := p / 16) (x := 1) (fun b hb => by
        show ((pcN (rs (cuX r f X c) (p / 16) (((cuX r f X c (p / 16)).toNat ||| 2 ^ (p % 16) : Nat) : Int) b).toNat 16 : Nat) : Int) = _
        rw [rs_ne hb]) (by
        show ((pcN (rs (cuX r f X c) (p / 16) (((cuX r f X c (p / 16)).toNat ||| 2 ^ (p % 16) : Nat) : Int) (p / 16)).toNat 16 : Nat) : Int) = ((pcN (cuX r f X c (p / 16)).toNat 16 : Nat) : Int) + 1
        rw [rs_eq, Int.toNat_natCast, pcN_one (by omega) hu]
        omega) 24
      rw [if_pos (by omega)] at h4
      rw [h4, i2]
      omega
theorem DR.fiOC (H : DR K O Rk Z B S W P r) : ∀ f, f ≤ 10 → OC (fiX r f) r f 0 ∧ sumN (fun b => ((pcN (fiX r f b).toNat 16 : Nat) : Int)) 24 = ((fiC r f : Nat) : Int) := by
  intro f
  induction f with
  | zero =>
    intro _
    refine ⟨OC_0, ?_⟩
    show sumN (fun _ => ((pcN (Int.toNat 0) 16 : Nat) : Int)) 24 = ((0 : Nat) : Int)
    decide
  | succ f ih =>
    intro hf
    obtain ⟨i1, i2⟩ := ih (by omega)
    obtain ⟨j1, j2⟩ := H.cuOC (show f < 10 by omega) i1 (szF r f) (Nat.le_refl _)
    refine ⟨j1.next, ?_⟩
    show sumN (fun b => ((pcN (cuX r f (fiX r f) (szF r f) b).toNat 16 : Nat) : Int)) 24 = ((fiC r f + cuC r f (szF r f) : Nat) : Int)
    rw [j2, i2]
    omega
/-- what the law's bits say of a block in the end -/
theorem DR.fin1 (H : DR K O Rk Z B S W P r) {X : Nat → Int} (h : OC X r 10 0) {b : Nat} (hb : b < 24) (hK : K b = 1) : pcN (X b).toNat 16 = 16 := by
  refine pcN_all 16 (fun c hc => ?_)
  have h2 := h.2 (16 * b + c) (by omega)
  rw [show (16 * b + c) / 16 = b by omega, show (16 * b + c) % 16 = c by omega] at h2
  refine h2.mpr ?_
  obtain ⟨k0, -, d3, -, d5, -⟩ := H.2.1 b hb
  rcases d3 with q | ⟨f, k, hf, e1, e2, e3, e4⟩
  · exact absurd q (d5 hK)
  · have hfi : ro r f 0 = 1 := by
      rcases (H.1 f hf).ex with q | q
      · omega
      · exact q.2
    obtain ⟨s1, s2, s3, s4⟩ := szF_yes H hf hfi
    refine ⟨f, 16 * k + c, Or.inl hf, hf, by omega, ?_⟩
    have ep : plB r f (16 * k + c) = (b : Int) := by
      unfold plB
      rw [show (16 * k + c) / 16 = k by omega, if_neg (by omega)]
      exact e4
    unfold plO
    rw [ep, Int.toNat_natCast, ← k0, if_neg (by omega), show (16 * k + c) / 16 = k by omega, show (16 * k + c) % 16 = c by omega, if_neg (by omega)]
    omega
theorem DR.fin2 (H : DR K O Rk Z B S W P r) {X : Nat → Int} (h : OC X r 10 0) {b : Nat} (hb : b < 24) (hK : K b = 2) : ∀ c, c < 16 → (X b).toNat.testBit c = (tkA Z B S (b : Int) (-1)).testBit c := fun c hc => by
  have h2 := h.2 (16 * b + c) (by omega)
  rw [show (16 * b + c) / 16 = b by omega, show (16 * b + c) % 16 = c by omega] at h2
  obtain ⟨k0, -⟩ := H.2.1 b hb
  have ht : (tkA Z B S (b : Int) (-1)).testBit c = orN (fun f => decide (B f = (b : Int) ∧ (f : Int) ≠ -1 ∧ S f ≤ (c : Int) ∧ (c : Int) < S f + Z f % 16)) 10 := tkF_tb (H.S0 (by omega)) c 10 (Nat.le_refl _)
  have he : (X b).toNat.testBit c = true ↔ (tkA Z B S (b : Int) (-1)).testBit c = true := by
    rw [h2, ht, orN_iff]
    constructor
    · rintro ⟨g, c2, -, b1, b2, b3⟩
      obtain ⟨a, ha, h1⟩ := H.plc b1 b2
      rcases h1 with ⟨-, -, h1⟩ | ⟨k1, o1, r1, l1, p1⟩ | ⟨k1, o1, l1, s1, i1, m1, p1⟩
      · omega
      · have e : a = b := by omega
        subst e
        omega
      · have e : a = b := by omega
        subst e
        exact ⟨g, b1, decide_eq_true ⟨o1, by omega, by omega, by omega⟩⟩
    · rintro ⟨g, hg, q⟩
      obtain ⟨q1, -, q2, q3⟩ := of_decide_eq_true q
      obtain ⟨e0, e1, -, e2, e3, e4, e5, e6, e7⟩ := (H.1 g hg).tl (by omega)
      obtain ⟨s1, s2, s3, s4⟩ := szF_yes H hg e0
      obtain ⟨m, hm⟩ : ∃ m : Nat, (c : Int) - S g = (m : Int) := ⟨((c : Int) - S g).toNat, by omega⟩
      obtain ⟨w, hw⟩ : ∃ w : Nat, Z g / 16 = (w : Int) := ⟨(Z g / 16).toNat, by omega⟩
      refine ⟨g, 16 * w + m, Or.inl hg, hg, by omega, ?_⟩
      have ep : plB r g (16 * w + m) = (b : Int) := by
        unfold plB
        rw [show (16 * w + m) / 16 = w by omega, if_pos (by omega), ← e3]
        exact q1
      unfold plO
      rw [ep, Int.toNat_natCast, ← k0, if_neg (by omega), show (16 * w + m) / 16 = w by omega, show (16 * w + m) % 16 = m by omega, if_pos (by omega), ← e4]
      omega
  cases h3 : (X b).toNat.testBit c with
  | true => exact (he.mp h3).symm
  | false =>
    cases h4 : (tkA Z B S (b : Int) (-1)).testBit c with
    | false => rfl
    | true => rw [he.mpr h4] at h3; cases h3
theorem DR.fin0 (H : DR K O Rk Z B S W P r) {X : Nat → Int} (h : OC X r 10 0) {b : Nat} (hb : b < 24) (hK : K b = 0 ∨ K b = 3) : pcN (X b).toNat 16 = 0 := by
  refine pcN_nil 16 (fun c hc => ?_)
  have h2 := h.2 (16 * b + c) (by omega)
  rw [show (16 * b + c) / 16 = b by omega, show (16 * b + c) % 16 = c by omega] at h2
  cases h3 : (X b).toNat.testBit c with
  | false => rfl
  | true =>
    obtain ⟨g, c2, -, b1, b2, b3⟩ := h2.mp h3
    obtain ⟨a, ha, h1⟩ := H.plc b1 b2
    rcases h1 with ⟨-, -, h1⟩ | ⟨k1, o1, r1, l1, p1⟩ | ⟨k1, o1, l1, s1, i1, m1, p1⟩
    · omega
    · have e : a = b := by omega
      subst e
      omega
    · have e : a = b := by omega
      subst e
      omega
/-- a block, as the law sees it in the end -/
theorem DR.finB (H : DR K O Rk Z B S W P r) {X : Nat → Int} (h : OC X r 10 0) {b : Nat} (hb : b < 24) :
    (0 ≤ biF r b 0 ∧ biF r b 0 ≤ 3) ∧ biF r b 0 = r (3 + b) ∧
    (biF r b 0 = 1 → pcN (X b).toNat 16 = 16 ∧ biF r b 1 = 0 ∧ 0 ≤ biF r b 4) ∧ (biF r b 0 ≠ 1 → biF r b 4 = -1) ∧
    (biF r b 0 = 2 → biF r b 2 = ((pcN (X b).toNat 16 : Nat) : Int) ∧ biF r b 3 = (((lgN (X b) 16).1 : Nat) : Int) ∧ 0 < biF r b 1 ∧ biF r b 1 ≤ ((pcN (X b).toNat 16 : Nat) : Int)) ∧
    (biF r b 0 ≠ 2 → biF r b 2 = 0 ∧ biF r b 3 = 0) ∧ (biF r b 0 = 0 ∨ biF r b 0 = 3 → pcN (X b).toNat 16 = 0) ∧
    ((pcN (X b).toNat 16 : Nat) : Int) = 16 * Bi (decide (r (3 + b) = 1)) + gcT r b ∧ (biF r b 0 = 2 → gpT r b = 16 - ((pcN (X b).toNat 16 : Nat) : Int)) := by
  have f1 := H.fin1 h hb
  have f2 := H.fin2 h hb
  have f0 := H.fin0 h hb
  have e0 : biF r b 0 = K b := (H.bp (w := 0) hb (by decide)).symm
  have e1 : biF r b 1 = tnN K B b := (H.bp (w := 1) hb (by decide)).symm
  have e2 : biF r b 2 = ((tcN K Z B S b : Nat) : Int) := (H.bp (w := 2) hb (by decide)).symm
  have e3 : biF r b 3 = if K b = 2 then (((lgN ((tkA Z B S (b : Int) (-1) : Nat) : Int) 16).1 : Nat) : Int) else 0 := (H.bp (w := 3) hb (by decide)).symm
  have e4 : biF r b 4 = if K b = 1 then O b else -1 := (H.bp (w := 4) hb (by decide)).symm
  have hk := H.kind hb
  obtain ⟨-, d2, d3, d4, d5, d6, d7, -⟩ := H.2.1 b hb
  have htc := H.tc (b := b)
  have hgc : gcT r b = if K b = 2 then tcF r (b : Int) else 0 := by
    unfold gcT
    rw [hk]
  have hgp : gpT r b = if K b = 2 then 16 - tcF r (b : Int) else 0 := by
    unfold gpT
    rw [hk]
  have hX := h.1 b hb
  have hc2 : K b = 2 → pcN (X b).toNat 16 = pcN (tkA Z B S (b : Int) (-1)) 16 := fun q => pcN_congr 16 (f2 q)
  rw [e0, e1, e2, e3, e4, hgc, hgp, ← hk]
  unfold tcN tnN
  have d0 : 0 ≤ K b ∧ K b ≤ 3 := by
    clear d3 d4 d5 d6 d7
    omega
  refine ⟨d0, rfl, fun q => ?_, fun q => if_neg q, fun q => ?_, fun q => ?_, fun q => f0 q, ?_, fun q => ?_⟩
  · refine ⟨f1 q, if_neg (by omega), ?_⟩
    rw [if_pos q]
    have h5 := d5 q
    rcases d3 with c | ⟨f, k, hf, c, -⟩ <;> omega
  · rw [if_pos q, if_pos q, if_pos q, hc2 q]
    refine ⟨rfl, ?_, ?_, ?_⟩
    · have hl : lgN (X b) 16 = lgN ((tkA Z B S (b : Int) (-1) : Nat) : Int) 16 := lgN_congr 16 (fun c hc => by
        rw [btB_tb, ← f2 q c hc, ← btB_tb, Int.toNat_of_nonneg hX.1])
      rw [hl]
    · obtain ⟨f, hf, hB⟩ := d6 q
      have hnn := (sumB_0 (p := fun f => decide (B f = (b : Int))) 10)
      by_cases c : sumN (fun f => Bi (decide (B f = (b : Int)))) 10 ≤ 0
      · have := hnn.mp c f hf
        rw [decide_eq_true hB] at this
        cases this
      · omega
    · rw [htc]
      unfold tcF
      refine sumN_le 10 (fun f hf => ?_)
      show Bi (decide (B f = (b : Int))) ≤ (if hasT r f (b : Int) = true then ro r f 1 % 16 else 0)
      rw [(H.1 f hf).tail (by omega)]
      by_cases c : B f = (b : Int)
      · rw [decide_eq_true c, if_pos rfl]
        obtain ⟨-, t1, -, t2, -⟩ := (H.1 f hf).tl (by omega)
        rw [← t1]
        show (1 : Int) ≤ _
        omega
      · rw [decide_eq_false c, if_neg (by decide)]
        exact Int.le_refl _
  · rw [if_neg q, if_neg q]
    exact ⟨rfl, rfl⟩
  · rcases d2 with q | q | q | q
    · rw [f0 (Or.inl q), decide_eq_false (by omega), if_neg (by omega)]
      rfl
    · rw [f1 q, decide_eq_true q, if_neg (by omega)]
      rfl
    · rw [hc2 q, decide_eq_false (by omega), if_pos q, htc]
      show _ = 16 * 0 + _
      omega
    · rw [f0 (Or.inr q), decide_eq_false (by omega), if_neg (by omega)]
      rfl
  · rw [if_pos q, hc2 q, htc]
end P30D
