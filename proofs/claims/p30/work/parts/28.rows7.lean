theorem fbM_congr {B B' T : Nat → Int} {s : Nat} (h : ∀ q, q < s → B q = B' q) : ∀ k, fbM B T s k = fbM B' T s k := by
  intro k
  induction k with
  | zero => rfl
  | succ k ih =>
    by_cases hb : s / 2 ^ k % 2 = 1
    · have h3 := bit_le hb
      have hp : 0 < 2 ^ k := Nat.two_pow_pos k
      have h4 := h (s - 2 ^ k) (by omega)
      show (if s / 2 ^ k % 2 = 1 then (if fnx (B (s - 2 ^ k)) (T k) < fbM B T s k then fnx (B (s - 2 ^ k)) (T k) else fbM B T s k) else fbM B T s k) = (if s / 2 ^ k % 2 = 1 then (if fnx (B' (s - 2 ^ k)) (T k) < fbM B' T s k then fnx (B' (s - 2 ^ k)) (T k) else fbM B' T s k) else fbM B' T s k)
      rw [h4, ih]
    · rw [fbM_f hb, fbM_f hb, ih]
/-- the fewest blocks that the tails need -/
def fbG (R : Nat → Int) : Int := fbF R (fun _ => 0)
-- the digest
def hsN (h : Int) (g : Nat → Int) : Nat → Int
  | 0 => h
  | n + 1 => 31 * hsN h g n + wr (g n)
def hf1 (R : Nat → Int) (f : Nat) (h : Int) : Int := if 0 < ro R f 1 then 31 * (31 * hsN h (prF R f) 7 + wr (plO R f 0)) + wr (plO R f (ro R f 1 - 1).toNat) else hsN h (prF R f) 7
def hf2 (R : Nat → Int) (f : Nat) (h : Int) : Int := 31 * (31 * hf1 R f (31 * h + (f : Int)) + wr (opV (gwO R f 1))) + wr (opV (gwO R f 16))
