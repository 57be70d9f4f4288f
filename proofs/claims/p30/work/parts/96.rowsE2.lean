def cpI (x y : UInt64) : Int := (Op.cmpValue (FP.dcmp x y) .g).toInt
def shI (e : Int) : Int := (Int64.ofInt e <<< ((Int32.ofInt 52).toInt64 &&& 63)).toInt
def boF (y : UInt64) (e : Nat) (w : Int) : Bool :=
  nn64 (FP.dsub y FP.dconst1) && (nn64 (FP.dmul (FP.dsub y FP.dconst1) 4841369599423283200) && decide (shI (e : Int) + (FP.d2l (FP.dmul (FP.dsub y FP.dconst1) 4841369599423283200)).toInt = w))
def boL : Nat → UInt64 → Nat → Int → Bool
  | 0, _, _, _ => false
  | k + 1, y, e, w => if 0 ≤ cpI y FP.dconst1 ∨ e ≤ 1 then boF y e w else nn64 (FP.dmul y 4611686018427387904) && boL k (FP.dmul y 4611686018427387904) (e - 1) w
def boB (x : UInt64) : Bool := if 0 < cpI x FP.dconst0 then boL 12 x 1023 x.toInt64.toInt else decide (x.toInt64.toInt = 0)
