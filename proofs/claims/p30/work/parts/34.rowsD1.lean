section LD1
variable {κ : KX} {Y : MD} {d mc ms N : Nat} {T : Ty} {pc : Nat} {L : List (Option MV)} {st : List MV} {v : Ct} {k n : Nat} {Q : State → Prop}
theorem M_ldc (C : CX κ Y d mc ms) {i : Nat} {w : Int32} {z : Int} (hw : Cond.constant Y.1.cls i w ∈ GW) (hz : w = Int32.ofInt z) (hd : decode Y.2.1 pc = .ok (.ldc i, 2)) (kk : M κ N T (pc + 2) L (vI z :: st) v k n Q) : M κ N T pc L (st) v k n Q := by
  obtain ⟨p, l, e, R, s, m, args, below, meth, c, b, δ⟩ := κ
  obtain ⟨hx, hb, hown, hts, hKK, hEX, hlocks, hnm, hret, hml, -⟩ := C
  intro H locs ls hR hS hL
  subst hz
  exact lv_ldc hx hb hown (hts _ hw) hd (kk H locs ls hR hS hL)
theorem M_iushr (C : CX κ Y d mc ms) {x y z : Int} (hz : ((Int32.ofInt x).toUInt32 >>> ((Int32.ofInt y).toUInt32 &&& Int32.toUInt32 31)).toInt32 = Int32.ofInt z) (hd : decode Y.2.1 pc = .ok (.iushr, 1)) (kk : M κ N T (pc + 1) L (vI z :: st) v k n Q) : M κ N T pc L (vI y :: vI x :: st) v k n Q := by
  obtain ⟨p, l, e, R, s, m, args, below, meth, c, b, δ⟩ := κ
  obtain ⟨hx, hb, hown, hts, hKK, hEX, hlocks, hnm, hret, hml, -⟩ := C
  intro H locs ls hR hS hL
  have h3 := (kk H locs ls hR hS hL)
  simp only [List.map_cons, tv, ← hz] at h3
  exact lv_iushr hx hb hd rfl h3
theorem M_max (C : CX κ Y d mc ms) {i a b0 : Nat} (ha : a < 2147483648) (hb0 : b0 < 2147483648) (hlink : Cond.methodLink Y.1.cls i Lib.Math.max.name ∈ GW) (hd : decode Y.2.1 pc = .ok (.invokestatic i, 3)) (hw : mcs st ≤ 8) (hdd : 1 ≤ d) (hk : k ≤ mc ∧ n ≤ ms)
    (hstat : Cond.static Lib.Math.max.name ∈ GW) (hini : Cond.initialized "java/lang/Math" ∈ GW) (hcode : Cond.code Lib.Math.max.name Lib.Math.max.code 2 (some .int) ∈ GW)
    (kk : M κ N T (pc + 3) L (vI ((max a b0 : Nat) : Int) :: st) v k n Q) : M κ N T pc L (vI ((b0 : Nat) : Int) :: vI ((a : Nat) : Int) :: st) v k n Q := by
  obtain ⟨p, l, e, R, s, m, args, below, meth, c', b, δ⟩ := κ
  obtain ⟨hx, hb, hown, hts, hKK, hEX, hlocks, hnm, hret, hml, hst, -, hr1, hr2, hr3, hr4⟩ := C
  intro H locs ls hRp hS hL
  have h2 := kk H locs ls hRp hS hL
  have e1 : (if Int32.ofInt (a : Int) < Int32.ofInt (b0 : Int) then Int32.ofInt (b0 : Int) else Int32.ofInt (a : Int)) = Int32.ofInt ((max a b0 : Nat) : Int) := by
    have h3 : Int32.ofInt (a : Int) < Int32.ofInt (b0 : Int) ↔ a < b0 := by
      rw [Int32.lt_iff_toInt_lt, i32_to (by omega), i32_to (by omega)]
      omega
    by_cases h4 : a < b0
    · rw [if_pos (h3.mpr h4), Nat.max_eq_right (by omega)]
    · rw [if_neg (fun h => h4 (h3.mp h)), Nat.max_eq_left (by omega)]
  simp only [List.map_cons, tv, ← e1] at h2
  exact va_mmax hx hb hL.2.1.symm hown (hts _ hlink) (hts _ hstat) (hts _ hini) (hts _ hcode) (by omega) (by rw [mcs_tv]; omega) (by omega) (by omega) hd h2
end LD1
theorem mx_l : Cond.methodLink RX0 85 Lib.Math.max.name ∈ GW := GW_t (i := 377) (by decide +kernel) rfl
theorem mx_s : Cond.static Lib.Math.max.name ∈ GW := GW_t (i := 378) (by decide +kernel) rfl
theorem mx_i : Cond.initialized "java/lang/Math" ∈ GW := GW_t (i := 15) (by decide +kernel) rfl
theorem mx_c : Cond.code Lib.Math.max.name Lib.Math.max.code 2 (some .int) ∈ GW := GW_t (i := 379) (by decide +kernel) rfl
theorem lc_X0_90 : Cond.constant RX0 90 65535 ∈ GW := GW_t (i := 492) (by decide +kernel) rfl
-- the class's disk: sizes Z, tail blocks B, tail starts S, broken W
def DI (Z B S W : Nat → Int) : Prop := ∀ f, f < 10 → (-1 ≤ Z f ∧ Z f ≤ 200) ∧ (B f ≠ -1 → (0 ≤ B f ∧ B f < 24) ∧ 0 ≤ Z f ∧ 0 ≤ S f ∧ S f + Z f % 16 ≤ 16) ∧ (W f = 0 ∨ W f = 1)
def tkM (z s : Int) : Nat := ((1 * 2 ^ (z % 16).toNat - 1) * 2 ^ s.toNat : Int).toNat
theorem tkM_eq {z s : Int} (h : 0 ≤ z) (hs : 0 ≤ s) (hb : s + z % 16 ≤ 16) : ((1 * 2 ^ (z % 16).toNat - 1) * 2 ^ s.toNat : Int) = ((tkM z s : Nat) : Int) ∧ tkM z s < 65536 := by
  obtain ⟨a, ha⟩ : ∃ a : Nat, z % 16 = (a : Int) := ⟨(z % 16).toNat, by omega⟩
  obtain ⟨c, hc⟩ : ∃ c : Nat, s = (c : Int) := ⟨s.toNat, by omega⟩
  have e : ((1 * 2 ^ (z % 16).toNat - 1) * 2 ^ s.toNat : Int) = (((2 ^ a - 1) * 2 ^ c : Nat) : Int) := by
    rw [ha, hc, Int.toNat_natCast, Int.toNat_natCast, Int.one_mul]
    have h1 : 1 ≤ 2 ^ a := Nat.one_le_two_pow
    rw [Int.natCast_mul, Int.ofNat_sub h1]
    push_cast
    rfl
  unfold tkM
  rw [e, Int.toNat_natCast]
  refine ⟨rfl, ?_⟩
  have h2 : (2 ^ a - 1) * 2 ^ c < 2 ^ a * 2 ^ c := Nat.mul_lt_mul_of_pos_right (by have : 0 < 2 ^ a := Nat.two_pow_pos a; omega) (Nat.two_pow_pos c)
  have h3 : 2 ^ a * 2 ^ c = 2 ^ (a + c) := (Nat.pow_add 2 a c).symm
  have h4 : 2 ^ (a + c) ≤ 2 ^ 16 := Nat.pow_le_pow_right (by decide) (by omega)
  omega
/-- the cells of a block that the first n files' tails take, but for one file's -/
def tkF (Z B S : Nat → Int) (b lo : Int) : Nat → Nat
  | 0 => 0
  | f + 1 => if B f = b ∧ (f : Int) ≠ lo then tkF Z B S b lo f ||| tkM (Z f) (S f) else tkF Z B S b lo f
theorem tkF_t {Z B S : Nat → Int} {b lo : Int} {f : Nat} (h : B f = b) (h2 : (f : Int) ≠ lo) : tkF Z B S b lo (f + 1) = tkF Z B S b lo f ||| tkM (Z f) (S f) := if_pos ⟨h, h2⟩
theorem tkF_f {Z B S : Nat → Int} {b lo : Int} {f : Nat} (h : ¬ (B f = b ∧ (f : Int) ≠ lo)) : tkF Z B S b lo (f + 1) = tkF Z B S b lo f := if_neg h
theorem tkF_bd {Z B S W : Nat → Int} {b lo : Int} (hD : DI Z B S W) (hb : 0 ≤ b) : ∀ n, n ≤ 10 → tkF Z B S b lo n < 65536 := by
  intro n
  induction n with
  | zero => intro _; exact show 0 < 65536 by decide
  | succ f ih =>
    intro hn
    by_cases h : B f = b ∧ (f : Int) ≠ lo
    · rw [tkF_t h.1 h.2]
      have h2 := (hD f (by omega)).2.1 (by omega)
      exact Nat.or_lt_two_pow (n := 16) (ih (by omega)) (tkM_eq h2.2.1 h2.2.2.1 h2.2.2.2).2
    · rw [tkF_f h]
      exact ih (by omega)
def tkA (Z B S : Nat → Int) (b lo : Int) : Nat := tkF Z B S b lo 10
/-- a cell is taken -/
def btB (t : Int) (c : Nat) : Bool := decide (t / 2 ^ c % 2 = 1)
def lgN (t : Int) : Nat → Nat × Nat
  | 0 => (0, 0)
  | c + 1 => if btB t c = true then ((lgN t c).1, 0) else (max (lgN t c).1 ((lgN t c).2 + 1), (lgN t c).2 + 1)
theorem lgN_t {t : Int} {c : Nat} (h : btB t c = true) : lgN t (c + 1) = ((lgN t c).1, 0) := if_pos h
theorem lgN_f {t : Int} {c : Nat} (h : btB t c = false) : lgN t (c + 1) = (max (lgN t c).1 ((lgN t c).2 + 1), (lgN t c).2 + 1) := if_neg (by rw [h]; decide)
theorem lgN_bd (t : Int) : ∀ c, (lgN t c).1 ≤ c ∧ (lgN t c).2 ≤ c ∧ (lgN t c).2 ≤ (lgN t c).1 := by
  intro c
  induction c with
  | zero => exact ⟨Nat.le_refl 0, Nat.le_refl 0, Nat.le_refl 0⟩
  | succ c ih =>
    cases h : btB t c with
    | true => rw [lgN_t h]; exact ⟨by omega, Nat.zero_le _, Nat.zero_le _⟩
    | false => rw [lgN_f h]; exact ⟨by show max _ _ ≤ _; omega, by show _ + 1 ≤ _; omega, Nat.le_max_right _ _⟩
def gapL (t : Int) (c : Nat) : Nat := gapLen (btB t) (16 - c) c
