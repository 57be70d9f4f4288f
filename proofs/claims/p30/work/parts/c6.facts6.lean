/-! .. bounds of what the looks answer; which files there are, as bits -/
section P30F
variable {K O Rk Z B S W P r : Nat → Int}
theorem DR.biB (H : DR K O Rk Z B S W P r) {b w : Nat} (hb : b < 24) (hw : w < 5) : -1 ≤ biF r b w ∧ biF r b w ≤ 24 := by
  rw [← H.bp hb hw]
  obtain ⟨-, d2, d3, -⟩ := H.2.1 b hb
  have h1 : 0 ≤ tnN K B b ∧ tnN K B b ≤ 10 := by
    unfold tnN
    have := sumN_bd (g := fun f => Bi (decide (B f = b))) (a := 1) (by decide) 10 (fun i _ => Bi_bd _)
    split <;> omega
  have h2 : tcN K Z B S b ≤ 16 := by
    unfold tcN
    split
    · exact pcN_le _ 16
    · decide
  have h3 := lgN_bd ((tkA Z B S (b : Int) (-1) : Nat) : Int) 16
  rcases (show w = 0 ∨ w = 1 ∨ w = 2 ∨ w = 3 ∨ w = 4 by omega) with rfl | rfl | rfl | rfl | rfl
  · show -1 ≤ K b ∧ K b ≤ 24
    clear d3
    omega
  · show -1 ≤ tnN K B b ∧ tnN K B b ≤ 24
    omega
  · show -1 ≤ ((tcN K Z B S b : Nat) : Int) ∧ ((tcN K Z B S b : Nat) : Int) ≤ 24
    omega
  · show -1 ≤ (if K b = 2 then (((lgN ((tkA Z B S (b : Int) (-1) : Nat) : Int) 16).1 : Nat) : Int) else 0) ∧ (if K b = 2 then (((lgN ((tkA Z B S (b : Int) (-1) : Nat) : Int) 16).1 : Nat) : Int) else 0) ≤ 24
    split <;> omega
  · show -1 ≤ (if K b = 1 then O b else -1) ∧ (if K b = 1 then O b else -1) ≤ 24
    split
    · rcases d3 with q | ⟨f, k, hf, q, -⟩ <;> omega
    · omega
theorem DR.prB (H : DR K O Rk Z B S W P r) (hP : ∀ g, g < 10 → 0 ≤ P g ∧ P g ≤ 1000000) {f w : Nat} (hf : f < 10) (hfi : ro r f 0 = 1) (hw : w < 7) : -1 ≤ prF r f w ∧ prF r f w ≤ 1000000 := by
  obtain ⟨p0, p1, p2, p3, p4, p5, p6⟩ := H.pf hf hfi
  have hz := H.zf hf hfi
  obtain ⟨-, -, -, w3, w4, w5⟩ := H.wf hf hz
  have ht := H.tlB hf hfi
  have hp := hP f hf
  rcases (show w = 0 ∨ w = 1 ∨ w = 2 ∨ w = 3 ∨ w = 4 ∨ w = 5 ∨ w = 6 by omega) with rfl | rfl | rfl | rfl | rfl | rfl | rfl <;> omega
theorem sum_ro (r : Nat → Int) (h : ∀ f, f < 10 → ro r f 0 = 0 ∨ ro r f 0 = 1) : 0 ≤ filF r ∧ filF r ≤ 10 := by
  have h1 := sumN_le (g := fun _ => 0) (g2 := fun f => ro r f 0) 10 (fun i hi => by have := h i hi; show 0 ≤ ro r i 0; omega)
  have h2 := sumN_le (g := fun f => ro r f 0) (g2 := fun _ => 1) 10 (fun i hi => by have := h i hi; show ro r i 0 ≤ 1; omega)
  have e1 : sumN (fun _ => (0 : Int)) 10 = 0 := by decide
  have e2 : sumN (fun _ => (1 : Int)) 10 = 10 := by decide
  unfold filF
  omega
theorem DR.ro01 (H : DR K O Rk Z B S W P r) {f : Nat} (hf : f < 10) : ro r f 0 = 0 ∨ ro r f 0 = 1 := by
  rcases (H.1 f hf).ex with q | q
  · exact Or.inl q.2
  · exact Or.inr q.2
theorem DR.ctB (H : DR K O Rk Z B S W P r) (h0 : 0 ≤ r 0 ∧ r 0 ≤ 1000000) (h1 : 0 ≤ r 1 ∧ r 1 ≤ 1000000) (h2 : r 2 = 0 ∨ r 2 = 1) {s w : Nat} (hs : s ≤ 6) (hw : w < 12) : 0 ≤ ctX r s w ∧ ctX r s w ≤ 1000000 := by
  have c0 := cntK_bd r 0
  have c1 := cntK_bd r 1
  have c2 := cntK_bd r 2
  have c3 := cntK_bd r 3
  have c4 := sum_ro r (fun f hf => H.ro01 hf)
  have c5 := H.gcb 24 (Nat.le_refl _)
  have c6 := H.gp
  have c7 := sumN_bd (g := fun f => Bi (brB r f)) (a := 1) (by decide) 10 (fun i _ => Bi_bd _)
  have e2 : sumN (fun b => Bi (decide (r (3 + b) = 2))) 24 = cntK r 2 := rfl
  have e5 : gcF r = 16 * cntK r 1 + sumN (gcT r) 24 := rfl
  rw [e2] at c5
  rcases (show w = 0 ∨ w = 1 ∨ w = 2 ∨ w = 3 ∨ w = 4 ∨ w = 5 ∨ w = 6 ∨ w = 7 ∨ w = 8 ∨ w = 9 ∨ w = 10 ∨ w = 11 by omega) with rfl | rfl | rfl | rfl | rfl | rfl | rfl | rfl | rfl | rfl | rfl | rfl
  · show 0 ≤ filF r ∧ filF r ≤ 1000000; omega
  · show 0 ≤ cntK r 0 ∧ cntK r 0 ≤ 1000000; omega
  · show 0 ≤ cntK r 1 ∧ cntK r 1 ≤ 1000000; omega
  · show 0 ≤ cntK r 2 ∧ cntK r 2 ≤ 1000000; omega
  · show 0 ≤ cntK r 3 ∧ cntK r 3 ≤ 1000000; omega
  · show 0 ≤ gcF r ∧ gcF r ≤ 1000000; omega
  · show 0 ≤ sumN (gpT r) 24 ∧ sumN (gpT r) 24 ≤ 1000000; omega
  · show 0 ≤ sumN (fun f => Bi (brB r f)) 10 ∧ sumN (fun f => Bi (brB r f)) 10 ≤ 1000000; omega
  · show 0 ≤ r 0 ∧ r 0 ≤ 1000000; omega
  · show 0 ≤ r 1 ∧ r 1 ≤ 1000000; omega
  · show 0 ≤ r 2 ∧ r 2 ≤ 1000000; omega
  · show 0 ≤ ((s : Nat) : Int) ∧ ((s : Nat) : Int) ≤ 1000000; omega
end P30F
/-- the files that the law knows of, as bits -/
def FLm (t : Int) (r : Nat → Int) : Prop := (0 ≤ t ∧ t < 1024) ∧ ∀ f : Nat, f < 10 → t / 2 ^ f % 2 = ro r f 0
theorem FLm.bt {t : Int} {r : Nat → Int} (h : FLm t r) {f : Nat} (hf : f < 10) : btB t f = decide (ro r f 0 = 1) := by
  unfold btB
  rw [h.2 f hf]
theorem FLm.congr {t : Int} {r r2 : Nat → Int} (h : FLm t r) (he : ∀ g, g < 10 → ro r2 g 0 = ro r g 0) : FLm t r2 := ⟨h.1, fun f hf => (h.2 f hf).trans (he f hf).symm⟩
theorem div_tb (x n : Nat) : x / 2 ^ n % 2 = (x.testBit n).toNat := by
  have h := pcN_tb x n
  have h2 : pcN x (n + 1) = pcN x n + x / 2 ^ n % 2 := rfl
  omega
theorem divI_tb (x n : Nat) : ((x : Nat) : Int) / 2 ^ n % 2 = (((x.testBit n).toNat : Nat) : Int) := by
  rw [← div_tb x n, Int.natCast_emod, Int.natCast_ediv, Int.natCast_pow]
  rfl
theorem FLm.add {t : Int} {r r2 : Nat → Int} (h : FLm t r) {f : Nat} (hf : f < 10) (h1 : ro r2 f 0 = 1) (hs : ∀ g, g < 10 → g ≠ f → ro r2 g 0 = ro r g 0) : FLm ((t.toNat ||| (1 * 2 ^ f : Int).toNat : Nat) : Int) r2 := by
  obtain ⟨x, rfl⟩ : ∃ x : Nat, t = (x : Int) := ⟨t.toNat, by have := h.1; omega⟩
  rw [Int.toNat_natCast, pow_toNat]
  have hx : x < 2 ^ 10 := by have := h.1; omega
  have hlt : x ||| 2 ^ f < 2 ^ 10 := Nat.or_lt_two_pow hx (Nat.pow_lt_pow_right (by decide) hf)
  refine ⟨⟨by omega, by omega⟩, fun g hg => ?_⟩
  have h2 := h.2 g hg
  rw [divI_tb] at h2
  rw [divI_tb, Nat.testBit_or, two_tb]
  by_cases e : g = f
  · subst e
    rw [decide_eq_true rfl, Bool.or_true, h1]
    rfl
  · rw [decide_eq_false (fun q => e q.symm), Bool.or_false, h2, hs g hg e]
theorem FLm.sub {t : Int} {r r2 : Nat → Int} (h : FLm t r) {f : Nat} (hf : f < 10) (h0 : ro r f 0 = 1) (h1 : ro r2 f 0 = 0) (hs : ∀ g, g < 10 → g ≠ f → ro r2 g 0 = ro r g 0) : FLm (t - 1 * 2 ^ f) r2 := by
  obtain ⟨x, rfl⟩ : ∃ x : Nat, t = (x : Int) := ⟨t.toNat, by have := h.1; omega⟩
  have h3 := h.2 f hf
  rw [divI_tb, h0] at h3
  have hb : x.testBit f = true := by
    cases q : x.testBit f with
    | true => rfl
    | false => rw [q] at h3; exact absurd h3 (by decide)
  have hle : 2 ^ f ≤ x := Nat.ge_two_pow_of_testBit hb
  have e2 : ((x : Nat) : Int) - 1 * 2 ^ f = ((x - 2 ^ f : Nat) : Int) := by
    rw [Int.one_mul, Int.ofNat_sub hle, Int.natCast_pow]
    rfl
  rw [e2]
  have hx := h.1
  have h7 : x - 2 ^ f ≤ x := Nat.sub_le x (2 ^ f)
  refine ⟨⟨Int.natCast_nonneg _, by omega⟩, fun g hg => ?_⟩
  have h2 := h.2 g hg
  rw [divI_tb] at h2
  rw [divI_tb, bit_sub hb]
  by_cases e : g = f
  · rw [if_pos e, e, h1]
    rfl
  · rw [if_neg e, h2, hs g hg e]
theorem FLm.ones {t : Int} {r : Nat → Int} (h : FLm t r) : sumN (fun f => t / 2 ^ f % 2) 10 = filF r := sumN_congr 10 (fun f hf => h.2 f hf)
theorem orN_t2 {p : Nat → Bool} {i : Nat} (h : orN p i = true) : orN p (i + 1) = true := by
  show (orN p i || p i) = true
  rw [h]
  rfl
theorem orN_t3 {p : Nat → Bool} {i : Nat} (h : p i = true) : orN p (i + 1) = true := by
  show (orN p i || p i) = true
  rw [h, Bool.or_true]
/-- the number that a file which comes would have, as the law looks for it -/
def loN (r : Nat → Int) : Nat := if frnF r = -1 then 10 else (frnF r).toNat
theorem loN_at {r : Nat → Int} {i : Nat} (hi : i < 10) (h : ∀ j, j < i → ro r j 0 = 1) (h0 : ro r i 0 ≠ 1) (h01 : ro r i 0 = 0 ∨ ro r i 0 = 1) : i = loN r := by
  have e : frnF r = (i : Int) := firstN_at (p := fun f => decide (ro r f 0 = 0)) (fun j hj => decide_eq_false (by have := h j hj; omega)) (decide_eq_true (by omega)) hi
  unfold loN
  rw [e, if_neg (by omega), Int.toNat_natCast]
theorem loN_no {r : Nat → Int} {i : Nat} (hi : i = 10) (h : ∀ j, j < i → ro r j 0 = 1) : i = loN r := by
  subst hi
  have e : frnF r = -1 := firstN_none (p := fun f => decide (ro r f 0 = 0)) (fun j hj => decide_eq_false (by have := h j hj; omega))
  unfold loN
  rw [e, if_pos rfl]
theorem loN_10 (r : Nat → Int) : loN r ≤ 10 ∧ (frnF r ≠ -1 ↔ loN r < 10) ∧ (frnF r ≠ -1 → frnF r = ((loN r : Nat) : Int)) := by
  have h := firstN_bd (fun f => decide (ro r f 0 = 0)) 10
  have h2 : -1 ≤ frnF r ∧ frnF r < 10 := h
  unfold loN
  by_cases e : frnF r = -1
  · rw [if_pos e]
    omega
  · rw [if_neg e]
    omega
