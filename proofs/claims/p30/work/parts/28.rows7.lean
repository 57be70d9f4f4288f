def nn64 (r : UInt64) : Bool := decide (r &&& 0x7fffffffffffffff ≤ 0x7ff0000000000000)
/-- a number that is none of those without a value -/
def okD (r : UInt64) : Bool := nn64 r && decide (FP.dcmp r r = some .eq)
/-- the share of g cells in m blocks -/
def shD (g m : Nat) : UInt64 := FP.ddiv (FP.i2d (Int32.ofInt (g : Int))) (FP.i2d (Int32.ofInt ((16 * m : Nat) : Int)))
/-- the share of the used blocks' cells that hold a file -/
def usF (r : Nat → Int) : UInt64 := if cntK r 1 + cntK r 2 = 0 then FP.dconst1 else FP.ddiv (FP.i2d (Int32.ofInt (gcF r))) (FP.i2d (Int32.ofInt (16 * (cntK r 1 + cntK r 2))))
theorem fbM_congr {B B' T : Nat → Int} {s : Nat} (h : ∀ q, q < s → B q = B' q) : ∀ k, fbM B T s k = fbM B' T s k := by
  intro k
  induction k with
  | zero => rfl
  | succ k ih =>
    by_cases hb : s / 2 ^ k % 2 = 1
    · have h3 := bit_le hb
      have hp : 0 < 2 ^ k := Nat.two_pow_pos k
      have h4 := h (s - 2 ^ k) (by omega)
      show (if s / 2 ^ k % 2 = 1 then (if fnx (B (s - 2 ^ k)) (T k) < fbM B T s k then fnx (B (s - 2 ^ k)) (T k) else fbM B T s k) else fbM B T s k) = (if s / 2 ^ k % 2 = 1 then (if fnx (B' (s - 2 ^ k)) (T k) < fbM B' T s k then fnx (B' (s - 2 ^ k)) (T k) else fbM B' T s k) else fbM B' T s k)
      rw [h4, ih]
    · rw [fbM_f hb, fbM_f hb, ih]
/-- the fewest blocks that the tails need -/
def fbG (R : Nat → Int) : Int := fbF R (fun _ => 0)
theorem fbG_bd (R : Nat → Int) : 0 ≤ fbG R ∧ fbG R ≤ 32 := by
  have h := fbN_bd (B := fun _ => 0) (n := (srL R 150).length) (fun k => (tlT_bd R k).1) (2 ^ (srL R 150).length - 1) _ (Nat.le_refl _)
  unfold fbG fbF
  omega
-- the digest
def hsN (h : Int) (g : Nat → Int) : Nat → Int
  | 0 => h
  | n + 1 => 31 * hsN h g n + wr (g n)
def hf1 (R : Nat → Int) (f : Nat) (h : Int) : Int := if 0 < ro R f 1 then 31 * (31 * hsN h (prF R f) 7 + wr (plO R f 0)) + wr (plO R f (ro R f 1 - 1).toNat) else hsN h (prF R f) 7
def hf2 (R : Nat → Int) (f : Nat) (h : Int) : Int := 31 * (31 * hf1 R f (31 * h + (f : Int)) + wr (opV (gwO R f 1))) + wr (opV (gwO R f 16))
