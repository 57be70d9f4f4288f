def nn64 (r : UInt64) : Bool := decide (r &&& 0x7fffffffffffffff ≤ 0x7ff0000000000000)
theorem nn64_ok {r : UInt64} (h : nn64 r = true) : vf_n64 r := by
  unfold nn64 at h
  unfold vf_n64
  exact of_decide_eq_true h
/-- a number that is none of those without a value -/
def okD (r : UInt64) : Bool := nn64 r && decide (FP.dcmp r r = some .eq)
theorem okD_1 {r : UInt64} (h : okD r = true) : vf_n64 r := by
  unfold okD at h
  rw [Bool.and_eq_true] at h
  exact nn64_ok h.1
theorem okD_2 {r : UInt64} (h : okD r = true) : Op.cmpValue (FP.dcmp r r) .l = Int32.ofInt 0 := by
  unfold okD at h
  rw [Bool.and_eq_true] at h
  rw [of_decide_eq_true h.2]
  rfl
/-- the share of g cells in m blocks -/
def shD (g m : Nat) : UInt64 := FP.ddiv (FP.i2d (Int32.ofInt (g : Int))) (FP.i2d (Int32.ofInt ((16 * m : Nat) : Int)))
theorem M_raw {κ : KX} {Y : MD} {d mc ms N : Nat} {T : Ty} {pc : Nat} {L : List (Option MV)} {st : List MV} {v : Ct} {k n : Nat} {Q : State → Prop} (C : CX κ Y d mc ms) {i : Nat} {x : UInt64}
    (hlink : Cond.methodLink Y.1.cls i ⟨"java/lang/Double", "doubleToRawLongBits", "(D)J"⟩ ∈ GW) (hd : decode Y.2.1 pc = .ok (.invokestatic i, 3)) (hw : mcs st ≤ 8) (hdd : 1 ≤ d)
    (hnat : Cond.native ⟨"java/lang/Double", "doubleToRawLongBits", "(D)J"⟩ ∈ GW) (hstat : Cond.static ⟨"java/lang/Double", "doubleToRawLongBits", "(D)J"⟩ ∈ GW) (hini : Cond.initialized "java/lang/Double" ∈ GW)
    (kk : M κ N T (pc + 3) L (vJ x.toInt64.toInt :: st) v k n Q) : M κ N T pc L (vD x :: st) v k n Q := by
  obtain ⟨p, l, e, R, s, m, args, below, meth, c', b, δ⟩ := κ
  obtain ⟨hx, hb, hown, hts, hKK, hEX, hlocks, hnm, hret, hml, hst, -, hr1, hr2, hr3, hr4⟩ := C
  intro H locs ls hRp hS hL
  have h2 := kk H locs ls hRp hS hL
  simp only [List.map_cons, tv, Int64.ofInt_toInt] at h2
  exact vn_d2l hx hb hL.2.1.symm hown (hts _ hlink) (hts _ hnat) (hts _ hstat) (hts _ hini) (by omega) (by rw [mcs_tv]; omega) hd h2
theorem raw_l : Cond.methodLink RJxe99ae 134 ⟨"java/lang/Double", "doubleToRawLongBits", "(D)J"⟩ ∈ GW := GW_t (i := 1261) (by decide +kernel) rfl
theorem raw_s : Cond.static ⟨"java/lang/Double", "doubleToRawLongBits", "(D)J"⟩ ∈ GW := GW_t (i := 1262) (by decide +kernel) rfl
theorem raw_n : Cond.native ⟨"java/lang/Double", "doubleToRawLongBits", "(D)J"⟩ ∈ GW := GW_t (i := 1263) (by decide +kernel) rfl
theorem raw_i : Cond.initialized "java/lang/Double" ∈ GW := GW_t (i := 18) (by decide +kernel) rfl
theorem lc_X8_249 : Cond.constantLong RX8 249 3499 ∈ GW := GW_t (i := 1249) (by decide +kernel) rfl
theorem lc_X8_247 : Cond.constantLong RX8 247 31 ∈ GW := GW_t (i := 1250) (by decide +kernel) rfl
theorem lc_D_137 : Cond.constantLong RJxe99ae 137 9221120237041090560 ∈ GW := GW_t (i := 1264) (by decide +kernel) rfl
/-- the share of the used blocks' cells that hold a file -/
def usF (r : Nat → Int) : UInt64 := if cntK r 1 + cntK r 2 = 0 then FP.dconst1 else FP.ddiv (FP.i2d (Int32.ofInt (gcF r))) (FP.i2d (Int32.ofInt (16 * (cntK r 1 + cntK r 2))))
theorem fbM_congr {B B' T : Nat → Int} {s : Nat} (h : ∀ q, q < s → B q = B' q) : ∀ k, fbM B T s k = fbM B' T s k := by
  intro k
  induction k with
  | zero => rfl
  | succ k ih =>
    by_cases hb : s / 2 ^ k % 2 = 1
    · have h3 := bit_le hb
      have hp : 0 < 2 ^ k := Nat.two_pow_pos k
      have h4 := h (s - 2 ^ k) (by omega)
      show (if s / 2 ^ k % 2 = 1 then (if fnx (B (s - 2 ^ k)) (T k) < fbM B T s k then fnx (B (s - 2 ^ k)) (T k) else fbM B T s k) else fbM B T s k) = (if s / 2 ^ k % 2 = 1 then (if fnx (B' (s - 2 ^ k)) (T k) < fbM B' T s k then fnx (B' (s - 2 ^ k)) (T k) else fbM B' T s k) else fbM B' T s k)
      rw [h4, ih]
    · rw [fbM_f hb, fbM_f hb, ih]
theorem fbN_congr {B B' T : Nat → Int} {n : Nat} : ∀ s q, q ≤ s → fbN B T n s q = fbN B' T n s q := by
  intro s
  induction s with
  | zero =>
    intro q hq
    have e : q = 0 := by omega
    subst e
    show rs B 0 16 0 = rs B' 0 16 0
    rw [rs_eq, rs_eq]
  | succ s ih =>
    intro q hq
    show rs (fbN B T n s) (s + 1) _ q = rs (fbN B' T n s) (s + 1) _ q
    by_cases e : q = s + 1
    · subst e
      rw [rs_eq, rs_eq]
      exact fbM_congr (fun q hq => ih q (by omega)) n
    · rw [rs_ne e, rs_ne e]
      exact ih q (by omega)
/-- the fewest blocks that the tails need -/
def fbG (R : Nat → Int) : Int := fbF R (fun _ => 0)
theorem fbG_eq (R B : Nat → Int) : fbF R B = fbG R := by
  unfold fbG fbF
  rw [fbN_congr _ _ (Nat.le_refl _)]
theorem fbG_bd (R : Nat → Int) : 0 ≤ fbG R ∧ fbG R ≤ 32 := by
  have h := fbN_bd (B := fun _ => 0) (n := (srL R 150).length) (fun k => (tlT_bd R k).1) (2 ^ (srL R 150).length - 1) _ (Nat.le_refl _)
  unfold fbG fbF
  omega
-- the digest
def hsN (h : Int) (g : Nat → Int) : Nat → Int
  | 0 => h
  | n + 1 => 31 * hsN h g n + wr (g n)
def hf1 (R : Nat → Int) (f : Nat) (h : Int) : Int := if 0 < ro R f 1 then 31 * (31 * hsN h (prF R f) 7 + wr (plO R f 0)) + wr (plO R f (ro R f 1 - 1).toNat) else hsN h (prF R f) 7
def hf2 (R : Nat → Int) (f : Nat) (h : Int) : Int := 31 * (31 * hf1 R f (31 * h + (f : Int)) + wr (opV (gwO R f 1))) + wr (opV (gwO R f 16))
def hfN (R : Nat → Int) (h : Int) : Nat → Int
  | 0 => h
  | f + 1 => if ro R f 0 = 1 then hf2 R f (hfN R h f) else hfN R h f
def hfA (R A : Nat → Int) : Nat → (Nat → Int)
  | 0 => A
  | f + 1 => if ro R f 0 = 1 then cpA (cpA (hfA R A f) R 0 0 207) R 0 0 207 else hfA R A f
def hbN (R : Nat → Int) (h : Int) : Nat → Int
  | 0 => h
  | b + 1 => hsN (hbN R h b) (biF R b) 5
def dg3 (R : Nat → Int) (h : Int) : Int := 31 * (31 * (31 * h + wr (plcF R 1)) + wr (plcF R 5)) + wr (plcF R 15)
def dg4 (R : Nat → Int) (h : Int) : Int := 31 * (31 * (31 * (31 * (31 * h + wr (grF R)) + wr (fbG R)) + wr (fbG R)) + wr (pkV R)) + wr (wkN (wkB R) 24).1
def dg5 (R : Nat → Int) (h : Int) : Int := 31 * dg4 R (dg3 R (hbN R h 24)) + (usF R).toInt64.toInt
def hhN (h : Int) (g : Nat → Int) : Nat → Int
  | 0 => h
  | n + 1 => 31 * hhN h g n + g n
def dgV (c R hs bf : Nat → Int) (n : Nat) : Int := hhN (31 * hhN (dg5 R (hfN R (hsN 3499 c 12) 10)) (fun k => Bi (decide (hs k ≠ 0))) 2 + (n : Int)) bf n
