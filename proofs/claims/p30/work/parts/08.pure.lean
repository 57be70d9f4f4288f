-- small functions
def Bi : Bool → Int
  | true => 1
  | false => 0
theorem Bi_i32 (b : Bool) : i32 (Bi b) := by cases b <;> decide
theorem Bi_01 (b : Bool) : Bi b = 0 ∨ Bi b = 1 := by cases b <;> decide
theorem Bi_eq0 {b : Bool} (h : Bi b = 0) : b = false := by cases b <;> first | rfl | exact absurd h (by decide)
theorem Bi_ne0 {b : Bool} (h : Bi b ≠ 0) : b = true := by cases b <;> first | rfl | exact absurd rfl h
theorem Bi_bd (b : Bool) : 0 ≤ Bi b ∧ Bi b ≤ 1 := by cases b <;> decide
def sumN (g : Nat → Int) : Nat → Int
  | 0 => 0
  | n + 1 => sumN g n + g n
theorem sumN_bd {g : Nat → Int} {a : Int} (h0 : 0 ≤ a) (n : Nat) (h : ∀ i, i < n → 0 ≤ g i ∧ g i ≤ a) : 0 ≤ sumN g n ∧ sumN g n ≤ n * a := by
  induction n with
  | zero => exact ⟨Int.le_refl _, by simp [sumN]⟩
  | succ n ih =>
    obtain ⟨h1, h2⟩ := ih (fun i hi => h i (by omega))
    obtain ⟨h3, h4⟩ := h n (by omega)
    refine ⟨by show 0 ≤ sumN g n + g n; omega, ?_⟩
    show sumN g n + g n ≤ ((n + 1 : Nat) : Int) * a
    rw [Int.natCast_add, Int.add_mul]
    omega
theorem sumN_congr {g g2 : Nat → Int} (n : Nat) (h : ∀ i, i < n → g i = g2 i) : sumN g n = sumN g2 n := by
  induction n with
  | zero => rfl
  | succ n ih =>
    show sumN g n + g n = sumN g2 n + g2 n
    rw [ih (fun i hi => h i (by omega)), h n (by omega)]
def orN (p : Nat → Bool) : Nat → Bool
  | 0 => false
  | n + 1 => orN p n || p n
theorem orN_iff {p : Nat → Bool} {n : Nat} : orN p n = true ↔ ∃ i, i < n ∧ p i = true := by
  induction n with
  | zero => simp [orN]
  | succ n ih =>
    show (orN p n || p n) = true ↔ _
    rw [Bool.or_eq_true, ih]
    constructor
    · rintro (⟨i, h1, h2⟩ | h)
      · exact ⟨i, by omega, h2⟩
      · exact ⟨n, by omega, h⟩
    · rintro ⟨i, h1, h2⟩
      by_cases e : i = n
      · subst e; exact Or.inr h2
      · exact Or.inl ⟨i, by omega, h2⟩
theorem orN_congr {p q : Nat → Bool} (n : Nat) (h : ∀ i, i < n → p i = q i) : orN p n = orN q n := by
  induction n with
  | zero => rfl
  | succ n ih =>
    show (orN p n || p n) = (orN q n || q n)
    rw [ih (fun i hi => h i (by omega)), h n (by omega)]
/-- the first below n; -1 if there is none -/
def firstN (p : Nat → Bool) : Nat → Int
  | 0 => -1
  | n + 1 => if firstN p n = -1 then (if p n = true then (n : Int) else -1) else firstN p n
theorem firstN_none {p : Nat → Bool} : ∀ {n : Nat}, (∀ i, i < n → p i = false) → firstN p n = -1 := by
  intro n
  induction n with
  | zero => intro _; rfl
  | succ n ih =>
    intro h
    show (if firstN p n = -1 then (if p n = true then (n : Int) else -1) else firstN p n) = -1
    rw [ih (fun i hi => h i (by omega)), h n (by omega)]
    rfl
theorem firstN_at {p : Nat → Bool} {i : Nat} (h0 : ∀ j, j < i → p j = false) (h1 : p i = true) : ∀ {n : Nat}, i < n → firstN p n = i := by
  intro n
  induction n with
  | zero => intro h; omega
  | succ n ih =>
    intro h
    show (if firstN p n = -1 then (if p n = true then (n : Int) else -1) else firstN p n) = i
    by_cases e : i = n
    · subst e
      rw [firstN_none h0, if_pos rfl, if_pos h1]
    · rw [ih (by omega), if_neg (by omega)]
theorem firstN_cases (p : Nat → Bool) (n : Nat) : (firstN p n = -1 ∧ ∀ i, i < n → p i = false) ∨ ∃ i, i < n ∧ firstN p n = i ∧ p i = true ∧ ∀ j, j < i → p j = false := by
  induction n with
  | zero => exact Or.inl ⟨rfl, fun i h => by omega⟩
  | succ n ih =>
    rcases ih with ⟨h1, h2⟩ | ⟨i, h1, h2, h3, h4⟩
    · cases hp : p n with
      | false =>
        have h3 : ∀ i, i < n + 1 → p i = false := fun i hi => by
          by_cases e : i = n
          · rw [e]; exact hp
          · exact h2 i (by omega)
        exact Or.inl ⟨firstN_none h3, h3⟩
      | true => exact Or.inr ⟨n, by omega, firstN_at h2 hp (by omega), hp, h2⟩
    · exact Or.inr ⟨i, by omega, firstN_at h4 h3 (by omega), h3, h4⟩
-- the model's row
abbrev ro (r : Nat → Int) (f w : Nat) : Int := r (27 + 18 * f + w)
def RI (r : Nat → Int) : Prop := ∀ f, f < 10 → (ro r f 0 = 0 ∨ ro r f 0 = 1) ∧ (0 ≤ ro r f 1 ∧ ro r f 1 ≤ 200) ∧ (0 < ro r f 1 % 16 → (0 ≤ ro r f 3 ∧ ro r f 3 < 24) ∧ 0 ≤ ro r f 4 ∧ ro r f 4 + ro r f 1 % 16 ≤ 16) ∧ (-1 ≤ ro r f 4 ∧ ro r f 4 ≤ 16) ∧ (∀ k : Nat, (k : Int) < ro r f 1 / 16 → 0 ≤ ro r f (6 + k) ∧ ro r f (6 + k) < 24) ∧ (ro r f 2 = 0 ∨ ro r f 2 = 1)
def isF (r : Nat → Int) (f : Int) : Bool := decide (0 ≤ f ∧ f ≤ 9) && decide (ro r f.toNat 0 = 1)
abbrev tl (r : Nat → Int) (f : Nat) : Int := ro r f 1 % 16
abbrev wl (r : Nat → Int) (f : Nat) : Int := ro r f 1 / 16
def hasT (r : Nat → Int) (f : Nat) (b : Int) : Bool := decide (ro r f 0 = 1) && (decide (0 < tl r f) && decide (ro r f 3 = b))
theorem isF_nat {r : Nat → Int} {f : Nat} (h : f < 10) : isF r f = decide (ro r f 0 = 1) := by
  unfold isF
  rw [Int.toNat_natCast, decide_eq_true (show 0 ≤ (f : Int) ∧ (f : Int) ≤ 9 by omega), Bool.true_and]
theorem isF_pos {r : Nat → Int} {f : Int} (h : isF r f = true) : ∃ n : Nat, f = n ∧ n < 10 ∧ ro r n 0 = 1 := by
  unfold isF at h
  rw [Bool.and_eq_true, decide_eq_true_eq, decide_eq_true_eq] at h
  exact ⟨f.toNat, by omega, by omega, h.2⟩
def inB (v a b : Int) : Bool := decide (a ≤ v ∧ v ≤ b)
theorem inB_t {v a b : Int} (h1 : a ≤ v) (h2 : v ≤ b) : inB v a b = true := decide_eq_true ⟨h1, h2⟩
theorem inB_f {v a b : Int} (h : v < a ∨ b < v) : inB v a b = false := decide_eq_false (by omega)
theorem inB_true {v a b : Int} (h : inB v a b = true) : a ≤ v ∧ v ≤ b := of_decide_eq_true h
theorem inB_false {v a b : Int} (h : inB v a b = false) : v < a ∨ b < v := by
  have := of_decide_eq_false h
  omega
section TERN
variable {κ : KX} {Y : MD} {d mc ms N : Nat} {T : Ty} {pc : Nat} {L : List (Option MV)} {st : List MV} {v : Ct} {k n : Nat} {Q : State → Prop}
/-- c ? 1 : 0 -/
theorem T_eq (C : CX κ Y d mc ms) {b : Bool} (d0 : decode Y.2.1 pc = .ok (.ifCond .eq 7, 3)) (d3 : decode Y.2.1 (pc + 3) = .ok (.iconst 1, 1)) (d4 : decode Y.2.1 (pc + 4) = .ok (.goto 4, 3)) (d7 : decode Y.2.1 (pc + 7) = .ok (.iconst 0, 1))
    (kk : M κ N T (pc + 8) L (vI (Bi b) :: st) v k n Q) : M κ N T pc L (vI (Bi b) :: st) v k n Q := by
  refine M_if_eq C (tgt := pc + 7) (Bi_i32 _) d0 (by push_cast; rfl) (fun h => ?_) (fun h => ?_)
  · rw [Bi_eq0 h] at kk
    exact M_iconst C d7 kk
  · rw [Bi_ne0 h] at kk
    exact M_iconst C d3 (M_goto C (tgt := pc + 8) d4 (by push_cast; omega) kk)
theorem T_ne (C : CX κ Y d mc ms) {b : Bool} (d0 : decode Y.2.1 pc = .ok (.ifCond .ne 7, 3)) (d3 : decode Y.2.1 (pc + 3) = .ok (.iconst 1, 1)) (d4 : decode Y.2.1 (pc + 4) = .ok (.goto 4, 3)) (d7 : decode Y.2.1 (pc + 7) = .ok (.iconst 0, 1))
    (kk : M κ N T (pc + 8) L (vI (Bi (!b)) :: st) v k n Q) : M κ N T pc L (vI (Bi b) :: st) v k n Q := by
  refine M_if_ne C (tgt := pc + 7) (Bi_i32 _) d0 (by push_cast; rfl) (fun h => ?_) (fun h => ?_)
  · rw [Bi_ne0 h] at kk
    exact M_iconst C d7 kk
  · rw [Bi_eq0 h] at kk
    exact M_iconst C d3 (M_goto C (tgt := pc + 8) d4 (by push_cast; omega) kk)
theorem T_icmp_ne (C : CX κ Y d mc ms) {x y : Int} (h1 : i32 x) (h2 : i32 y) (d0 : decode Y.2.1 pc = .ok (.if_icmp .ne 7, 3)) (d3 : decode Y.2.1 (pc + 3) = .ok (.iconst 1, 1)) (d4 : decode Y.2.1 (pc + 4) = .ok (.goto 4, 3)) (d7 : decode Y.2.1 (pc + 7) = .ok (.iconst 0, 1))
    (kk : M κ N T (pc + 8) L (vI (Bi (decide (x = y))) :: st) v k n Q) : M κ N T pc L (vI y :: vI x :: st) v k n Q := by
  refine M_icmp_ne C (tgt := pc + 7) h1 h2 d0 (by push_cast; rfl) (fun h => ?_) (fun h => ?_)
  · rw [decide_eq_false h] at kk
    exact M_iconst C d7 kk
  · rw [decide_eq_true h] at kk
    exact M_iconst C d3 (M_goto C (tgt := pc + 8) d4 (by push_cast; omega) kk)
theorem T_icmp_eq (C : CX κ Y d mc ms) {x y : Int} (h1 : i32 x) (h2 : i32 y) (d0 : decode Y.2.1 pc = .ok (.if_icmp .eq 7, 3)) (d3 : decode Y.2.1 (pc + 3) = .ok (.iconst 1, 1)) (d4 : decode Y.2.1 (pc + 4) = .ok (.goto 4, 3)) (d7 : decode Y.2.1 (pc + 7) = .ok (.iconst 0, 1))
    (kk : M κ N T (pc + 8) L (vI (Bi (decide (x ≠ y))) :: st) v k n Q) : M κ N T pc L (vI y :: vI x :: st) v k n Q := by
  refine M_icmp_eq C (tgt := pc + 7) h1 h2 d0 (by push_cast; rfl) (fun h => ?_) (fun h => ?_)
  · rw [decide_eq_false (fun q => q h)] at kk
    exact M_iconst C d7 kk
  · rw [decide_eq_true h] at kk
    exact M_iconst C d3 (M_goto C (tgt := pc + 8) d4 (by push_cast; omega) kk)
end TERN
theorem Bid_eq0 {p : Prop} [Decidable p] (h : Bi (decide p) = 0) : ¬ p := of_decide_eq_false (Bi_eq0 h)
theorem Bid_ne0 {p : Prop} [Decidable p] (h : Bi (decide p) ≠ 0) : p := of_decide_eq_true (Bi_ne0 h)
theorem hasT_no {r : Nat → Int} {f : Nat} {b : Int} (h : ro r f 0 ≠ 1 ∨ ¬ 0 < ro r f 1 % 16) : hasT r f b = false := by
  unfold hasT
  rcases h with h | h
  · rw [decide_eq_false h, Bool.false_and]
  · rw [decide_eq_false (p := 0 < tl r f) h, Bool.false_and, Bool.and_false]
theorem hasT_yes {r : Nat → Int} {f : Nat} {b : Int} (h1 : ro r f 0 = 1) (h2 : 0 < ro r f 1 % 16) : hasT r f b = decide (ro r f 3 = b) := by
  unfold hasT
  rw [decide_eq_true h1, Bool.true_and, decide_eq_true (p := 0 < tl r f) h2, Bool.true_and]
theorem hasT_true {r : Nat → Int} {f : Nat} {b : Int} (h : hasT r f b = true) : ro r f 0 = 1 ∧ 0 < ro r f 1 % 16 ∧ ro r f 3 = b := by
  unfold hasT at h
  simp only [Bool.and_eq_true, decide_eq_true_eq] at h
  exact h
/-- is a cell of a block taken -/
def takB (r : Nat → Int) (b c : Int) (f : Nat) : Bool := hasT r f b && inB c (ro r f 4) (ro r f 4 + ro r f 1 % 16 - 1)
def isTk (r : Nat → Int) (b c : Int) : Bool := orN (takB r b c) 10
def gapLen (tk : Nat → Bool) : Nat → Nat → Nat
  | 0, _ => 0
  | k + 1, c => if tk c = true then 0 else gapLen tk k (c + 1) + 1
theorem takB_no {r : Nat → Int} {b c : Int} {f : Nat} (h : hasT r f b = false) : takB r b c f = false := by
  unfold takB
  rw [h, Bool.false_and]
theorem takB_yes {r : Nat → Int} {b c : Int} {f : Nat} (h : hasT r f b = true) : takB r b c f = inB c (ro r f 4) (ro r f 4 + ro r f 1 % 16 - 1) := by
  unfold takB
  rw [h, Bool.true_and]
theorem orN_t {p : Nat → Bool} {i : Nat} (h : orN p i = true) : orN p (i + 1) = true := by
  show (orN p i || p i) = true
  rw [h, Bool.true_or]
theorem orN_f {p : Nat → Bool} {i : Nat} {b : Bool} (h : orN p i = false) (hb : p i = b) : orN p (i + 1) = b := by
  show (orN p i || p i) = b
  rw [h, Bool.false_or, hb]
theorem sumN_s {g : Nat → Int} {i : Nat} {x : Int} (h : g i = x) : sumN g (i + 1) = sumN g i + x := by
  show sumN g i + g i = _
  rw [h]
def gapAt (sh : Bool) (tk : Nat → Bool) (c : Nat) : Nat := if sh = false ∨ tk c = true ∨ (0 < c ∧ tk (c - 1) = false) then 0 else gapLen tk (16 - c) c
theorem gapLen_le (tk : Nat → Bool) : ∀ k c, gapLen tk k c ≤ k := by
  intro k
  induction k with
  | zero => intro c; exact Nat.le_refl 0
  | succ k ih =>
    intro c
    unfold gapLen
    split
    · omega
    · have := ih (c + 1)
      omega
theorem gapLen_0 {tk : Nat → Bool} {k c : Nat} (h : tk c = true) : gapLen tk k c = 0 := by
  cases k with
  | zero => rfl
  | succ k => unfold gapLen; rw [if_pos h]
theorem gapLen_s {tk : Nat → Bool} {k c : Nat} (hk : 0 < k) (h : tk c = false) : gapLen tk k c = gapLen tk (k - 1) (c + 1) + 1 := by
  cases k with
  | zero => omega
  | succ k =>
    show (if tk c = true then 0 else gapLen tk k (c + 1) + 1) = gapLen tk k (c + 1) + 1
    rw [if_neg (by rw [h]; decide)]
def gfStep (rule cells : Int) (gap : Nat → Nat) (s : Int × Int) (k : Nat) : Int × Int := if cells ≤ gap k ∧ (if rule = 0 then s.1 = -1 else (gap k : Int) < s.2) then ((k : Int), (gap k : Int)) else s
def gfN (rule cells : Int) (gap : Nat → Nat) : Nat → Int × Int
  | 0 => (-1, 17)
  | n + 1 => gfStep rule cells gap (gfN rule cells gap n) n
def tkC (r : Nat → Int) (b : Nat) (c : Nat) : Bool := isTk r b c
def gapK (r : Nat → Int) (k : Nat) : Nat := gapAt (decide (r (3 + k / 16) = 2)) (tkC r (k / 16)) (k % 16)
def gapF (r : Nat → Int) (cells : Int) : Int := (gfN (r 2) cells (gapK r) 384).1
def lowF (r : Nat → Int) : Int := firstN (fun b => decide (r (3 + b) = 0)) 24
def plcF (r : Nat → Int) (cells : Int) : Int := if gapF r cells ≠ -1 then gapF r cells else if lowF r = -1 then -1 else 16 * lowF r
-- to know less of the locals
def maskL : List Bool → List (Option MV) → List (Option MV)
  | true :: bs, x :: t => x :: maskL bs t
  | false :: bs, _ :: t => none :: maskL bs t
  | _, t => t
theorem maskL_len : ∀ (bs : List Bool) (L : List (Option MV)), (maskL bs L).length = L.length := by
  intro bs
  induction bs with
  | nil => intro L; cases L <;> rfl
  | cons b bs ih =>
    intro L
    cases L with
    | nil => cases b <;> rfl
    | cons x t => cases b <;> simp [maskL, ih]
theorem maskL_at : ∀ (bs : List Bool) (L : List (Option MV)) (j : Nat) (x : MV), (maskL bs L)[j]? = some (some x) → L[j]? = some (some x) := by
  intro bs
  induction bs with
  | nil => intro L j x h; cases L <;> exact h
  | cons b bs ih =>
    intro L j x h
    cases L with
    | nil => cases b <;> exact h
    | cons y t =>
      cases b <;> cases j with
      | zero => first | (simp [maskL] at h; done) | (simp only [maskL] at h; exact h)
      | succ j => simp only [maskL, List.getElem?_cons_succ] at h ⊢; exact ih t j x h
theorem M.drop {κ : KX} {N : Nat} {T : Ty} {pc : Nat} {L L2 : List (Option MV)} {st : List MV} {v : Ct} {k n : Nat} {Q : State → Prop} (bs : List Bool) (h : maskL bs L = L2) (kk : M κ N T pc L2 st v k n Q) : M κ N T pc L st v k n Q := by
  subst h
  obtain ⟨p, l, e, R, s, m, args, below, meth, c, b, δ⟩ := κ
  intro H locs ls hR hS hL
  exact kk H locs ls hR hS (LH.of (by rw [maskL_len]; exact hL.1) hL.2 fun j x hj => by simpa using lvl_mem (b := b) (i := 0) (maskL_at bs L j x hj))
theorem gapAt_0 {sh : Bool} {tk : Nat → Bool} {c : Nat} (h : sh = false ∨ tk c = true ∨ (0 < c ∧ tk (c - 1) = false)) : gapAt sh tk c = 0 := by
  unfold gapAt
  rw [if_pos h]
theorem gapAt_1 {sh : Bool} {tk : Nat → Bool} {c : Nat} (h1 : sh = true) (h2 : tk c = false) (h3 : c = 0 ∨ tk (c - 1) = true) : gapAt sh tk c = gapLen tk (16 - c) c := by
  unfold gapAt
  rw [if_neg]
  rintro (h | h | ⟨h, h4⟩)
  · rw [h1] at h; cases h
  · rw [h2] at h; cases h
  · rcases h3 with h3 | h3
    · omega
    · rw [h3] at h4; cases h4
theorem gapAt_le (sh : Bool) (tk : Nat → Bool) (c : Nat) : gapAt sh tk c ≤ 16 := by
  unfold gapAt
  split
  · omega
  · have := gapLen_le tk (16 - c) c
    omega
theorem gfN_t {rule cells : Int} {gap : Nat → Nat} {n : Nat} (h : cells ≤ gap n ∧ (if rule = 0 then (gfN rule cells gap n).1 = -1 else (gap n : Int) < (gfN rule cells gap n).2)) : gfN rule cells gap (n + 1) = ((n : Int), (gap n : Int)) := by
  show gfStep rule cells gap (gfN rule cells gap n) n = _
  unfold gfStep
  rw [if_pos h]
theorem gfN_f {rule cells : Int} {gap : Nat → Nat} {n : Nat} (h : ¬ (cells ≤ gap n ∧ (if rule = 0 then (gfN rule cells gap n).1 = -1 else (gap n : Int) < (gfN rule cells gap n).2))) : gfN rule cells gap (n + 1) = gfN rule cells gap n := by
  show gfStep rule cells gap (gfN rule cells gap n) n = _
  unfold gfStep
  rw [if_neg h]
theorem gfN_bd {rule cells : Int} {gap : Nat → Nat} (hg : ∀ k, gap k ≤ 16) (n : Nat) : (-1 ≤ (gfN rule cells gap n).1 ∧ (gfN rule cells gap n).1 < n) ∧ 0 ≤ (gfN rule cells gap n).2 ∧ (gfN rule cells gap n).2 ≤ 17 := by
  induction n with
  | zero => exact ⟨⟨show (-1 : Int) ≤ -1 by decide, show (-1 : Int) < 0 by decide⟩, show (0 : Int) ≤ 17 by decide, show (17 : Int) ≤ 17 by decide⟩
  | succ n ih =>
    by_cases h : cells ≤ gap n ∧ (if rule = 0 then (gfN rule cells gap n).1 = -1 else (gap n : Int) < (gfN rule cells gap n).2)
    · rw [gfN_t h]
      have := hg n
      exact ⟨⟨by show -1 ≤ (n : Int); omega, by show (n : Int) < ((n + 1 : Nat) : Int); omega⟩, by show (0 : Int) ≤ (gap n : Int); omega, by show (gap n : Int) ≤ 17; omega⟩
    · rw [gfN_f h]
      omega
theorem gapK_le (r : Nat → Int) (k : Nat) : gapK r k ≤ 16 := gapAt_le _ _ _
theorem gapF_bd (r : Nat → Int) (cells : Int) : -1 ≤ gapF r cells ∧ gapF r cells < 384 := by
  have := gfN_bd (rule := r 2) (cells := cells) (gapK_le r) 384
  exact ⟨this.1.1, by have := this.1.2; exact this⟩
theorem firstN_bd (p : Nat → Bool) (n : Nat) : -1 ≤ firstN p n ∧ firstN p n < n := by
  rcases firstN_cases p n with ⟨h, -⟩ | ⟨i, h1, h2, -, -⟩
  · rw [h]; omega
  · rw [h2]; omega
theorem lowF_bd (r : Nat → Int) : -1 ≤ lowF r ∧ lowF r < 24 := firstN_bd _ 24
def maxN (g : Nat → Nat) : Nat → Nat
  | 0 => 0
  | n + 1 => if maxN g n < g n then g n else maxN g n
theorem maxN_t {g : Nat → Nat} {n : Nat} (h : maxN g n < g n) : maxN g (n + 1) = g n := if_pos h
theorem maxN_f {g : Nat → Nat} {n : Nat} (h : ¬ maxN g n < g n) : maxN g (n + 1) = maxN g n := if_neg h
theorem maxN_bd {g : Nat → Nat} {a : Nat} (n : Nat) (h : ∀ i, i < n → g i ≤ a) : maxN g n ≤ a := by
  induction n with
  | zero => exact Nat.zero_le a
  | succ n ih =>
    have h1 := ih (fun i hi => h i (by omega))
    have h2 := h n (by omega)
    show (if maxN g n < g n then g n else maxN g n) ≤ a
    split <;> omega
def frnF (r : Nat → Int) : Int := firstN (fun f => decide (ro r f 0 = 0)) 10
def hasIn (r : Nat → Int) (f : Nat) (b : Int) : Bool := hasT r f b || (decide (ro r f 0 = 1) && orN (fun k => decide (ro r f (6 + k) = b)) (ro r f 1 / 16).toNat)
def isPk (r : Nat → Int) (f : Nat) : Bool := decide (ro r f 0 = 1) && (decide (ro r f 2 = 0) && decide (0 < ro r f 1 % 16))
def hldB (r : Nat → Int) (b : Int) (f : Nat) : Bool := hasT r f b && decide (ro r f 2 = 1)
def tcF (r : Nat → Int) (b : Int) : Int := sumN (fun f => if hasT r f b = true then ro r f 1 % 16 else 0) 10
def lgF (r : Nat → Int) (b : Nat) : Nat := maxN (gapAt (decide (r (3 + b) = 2)) (tkC r b)) 16
def owN (c : Nat → Bool) : Nat → Int
  | 0 => -1
  | i + 1 => if c (9 - i) = true then 9 - (i : Int) else owN c i
def ownF (r : Nat → Int) (b : Nat) : Int := owN (fun f => decide (r (3 + b) = 1) && hasIn r f b) 10
