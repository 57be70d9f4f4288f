def tcN (K Z B S : Nat → Int) (b : Nat) : Nat := if K b = 2 then pcN (tkA Z B S b (-1)) 16 else 0
theorem tcN_le (K Z B S : Nat → Int) (b : Nat) : tcN K Z B S b ≤ 16 := by
  unfold tcN
  split
  · exact pcN_le _ 16
  · decide
def tnN (K B : Nat → Int) (b : Nat) : Int := if K b = 2 then sumN (fun f => Bi (decide (B f = b))) 10 else 0
def fpN (Z B S W P : Nat → Int) (f w : Nat) : Int := match w with
  | 0 => Z f
  | 1 => Z f / 16
  | 2 => Z f % 16
  | 3 => B f
  | 4 => S f
  | 5 => W f
  | _ => P f
def bpN (K O Z B S : Nat → Int) (b w : Nat) : Int := match w with
  | 0 => K b
  | 1 => tnN K B b
  | 2 => ((tcN K Z B S b : Nat) : Int)
  | 3 => if K b = 2 then (((lgN ((tkA Z B S b (-1) : Nat) : Int) 16).1 : Nat) : Int) else 0
  | _ => if K b = 1 then O b else -1
def hsB (O Z B : Nat → Int) (f b : Nat) : Bool := decide (Z f ≠ -1) && (decide (O b = f) || decide (B f = b))
def orB (p : Nat → Bool) : Nat → Bool
  | 0 => false
  | n + 1 => orB p n || p n
def lfN (K : Nat → Int) : Int := firstN (fun b => decide (K b = 0)) 24
def lnN (Z : Nat → Int) : Int := firstN (fun f => decide (Z f = -1)) 10
/-- is there room: the blocks gone through, the free ones, the longest gap -/
def ieT (K Z B S : Nat → Int) (lo : Int) (b : Nat) : Nat := if K b = 2 then tkA Z B S b lo else 0
def ieN (K Z B S : Nat → Int) (lo : Int) : Nat → Nat × Nat
  | 0 => (0, 0)
  | b + 1 => if ieT K Z B S lo b ≠ 0 then ((ieN K Z B S lo b).1, max (ieN K Z B S lo b).2 (lgN ((ieT K Z B S lo b : Nat) : Int) 16).1)
    else if K b = 0 ∨ K b = 2 then ((ieN K Z B S lo b).1 + 1, (ieN K Z B S lo b).2) else ieN K Z B S lo b
theorem ieN_bd (K Z B S : Nat → Int) (lo : Int) : ∀ b, (ieN K Z B S lo b).1 ≤ b ∧ (ieN K Z B S lo b).2 ≤ 16 := by
  intro b
  induction b with
  | zero => exact ⟨Nat.le_refl 0, Nat.zero_le _⟩
  | succ b ih =>
    have h2 := (lgN_bd ((ieT K Z B S lo b : Nat) : Int) 16).1
    unfold ieN
    split
    · exact ⟨Nat.le_succ_of_le ih.1, Nat.max_le.mpr ⟨ih.2, h2⟩⟩
    · split
      · exact ⟨Nat.succ_le_succ ih.1, ih.2⟩
      · exact ⟨Nat.le_succ_of_le ih.1, ih.2⟩
def ieB (K Z B S : Nat → Int) (w t lo : Int) : Bool := decide (w < ((ieN K Z B S lo 24).1 : Int) ∨ (((ieN K Z B S lo 24).1 : Int) = w ∧ t ≤ ((ieN K Z B S lo 24).2 : Int)))
theorem bc_e1 (x : Nat) : ((bc1 x : Nat) : Int) = (x : Int) - ((x / 2 &&& 1431655765 : Nat) : Int) := by
  have := bc1_le x
  unfold bc1 at *
  omega
theorem orB_f {p : Nat → Bool} {n : Nat} (h : ∀ j, j < n → p j = false) : orB p n = false := by
  induction n with
  | zero => rfl
  | succ n ih =>
    show (orB p n || p n) = false
    rw [ih (fun j hj => h j (by omega)), h n (by omega)]
    rfl
theorem orB_t {p : Nat → Bool} {i n : Nat} (hi : i < n) (h : p i = true) : orB p n = true := by
  induction n with
  | zero => omega
  | succ n ih =>
    show (orB p n || p n) = true
    by_cases e : i = n
    · rw [← e, h, Bool.or_true]
    · rw [ih (by omega), Bool.true_or]
theorem tkA_bd {Z B S W : Nat → Int} {b lo : Int} (hD : DI Z B S W) (hb : 0 ≤ b) : tkA Z B S b lo < 65536 := tkF_bd hD hb 10 (Nat.le_refl _)
/-- the packer may use a block -/
def tpB (K B W : Nat → Int) (b : Nat) : Bool := !(orB (fun f => decide (W f = 1) && decide (B f = b)) 10) && decide (K b = 2)
