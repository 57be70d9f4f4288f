def tw3 (f : Int) (K O Rk : Nat → Int) (r0 : Nat) : Nat → (Nat → Int) × ((Nat → Int) × (Nat → Int))
  | 0 => (K, O, Rk)
  | i + 1 => (tawK (tw3 f K O Rk r0 i).1, tawO (tw3 f K O Rk r0 i).1 (tw3 f K O Rk r0 i).2.1 f, tawO (tw3 f K O Rk r0 i).1 (tw3 f K O Rk r0 i).2.2 ((r0 + i : Nat) : Int))
def rbT (f : Nat) (K Z B S O Rk : Nat → Int) (z s : Nat) : (Nat → Int) × ((Nat → Int) × (Nat → Int)) := tw3 f (dtK K Z B S f) O Rk (z / 16) (s / 16 - z / 16)
def rbD (f : Nat) (K Z B S O Rk : Nat → Int) (z s : Nat) : (Nat → Int) × ((Nat → Int) × ((Nat → Int) × Nat)) := dwS2 f ((s / 16 : Nat) : Int) (rbT f K Z B S O Rk z s).1 (rbT f K Z B S O Rk z s).2.1 (rbT f K Z B S O Rk z s).2.2 24
def rbP (f : Nat) (K Z B S O Rk : Nat → Int) (rule : Int) (z s : Nat) : Int := if s % 16 = 0 then -1 else plN (rbD f K Z B S O Rk z s).1 (rs Z f (s : Int)) (rs B f (-1)) (rs S f (-1)) rule ((s % 16 : Nat) : Int)
def rbK (f : Nat) (K Z B S O Rk : Nat → Int) (rule : Int) (z s : Nat) : Nat → Int := if rbP f K Z B S O Rk rule z s = -1 then (rbD f K Z B S O Rk z s).1 else rs (rbD f K Z B S O Rk z s).1 (rbP f K Z B S O Rk rule z s / 16).toNat 2
def rbB (f : Nat) (K Z B S O Rk : Nat → Int) (rule : Int) (z s : Nat) : Nat → Int := if rbP f K Z B S O Rk rule z s = -1 then rs B f (-1) else rs (rs B f (-1)) f (rbP f K Z B S O Rk rule z s / 16)
def rbS (f : Nat) (K Z B S O Rk : Nat → Int) (rule : Int) (z s : Nat) : Nat → Int := if rbP f K Z B S O Rk rule z s = -1 then rs S f (-1) else rs (rs S f (-1)) f (rbP f K Z B S O Rk rule z s % 16)
def rbQ (f : Nat) (K Z B S O Rk P : Nat → Int) (rule : Int) (z s : Nat) : Nat → Int := if rbP f K Z B S O Rk rule z s = -1 then P else rs P f (wr (P f + 1))
theorem rb_no {f : Nat} {K Z B S O Rk P : Nat → Int} {rule : Int} {z s : Nat} (h : rbP f K Z B S O Rk rule z s = -1) :
    rbK f K Z B S O Rk rule z s = (rbD f K Z B S O Rk z s).1 ∧ rbB f K Z B S O Rk rule z s = rs B f (-1) ∧ rbS f K Z B S O Rk rule z s = rs S f (-1) ∧ rbQ f K Z B S O Rk P rule z s = P :=
  ⟨if_pos h, if_pos h, if_pos h, if_pos h⟩
theorem rb_yes {f : Nat} {K Z B S O Rk P : Nat → Int} {rule : Int} {z s q : Nat} (h : rbP f K Z B S O Rk rule z s = (q : Int)) :
    rbK f K Z B S O Rk rule z s = rs (rbD f K Z B S O Rk z s).1 (q / 16) 2 ∧ rbB f K Z B S O Rk rule z s = rs (rs B f (-1)) f ((q / 16 : Nat) : Int) ∧ rbS f K Z B S O Rk rule z s = rs (rs S f (-1)) f ((q % 16 : Nat) : Int) ∧ rbQ f K Z B S O Rk P rule z s = rs P f (wr (P f + 1)) := by
  unfold rbK rbB rbS rbQ
  rw [h]
  exact ⟨if_neg (by omega), if_neg (by omega), if_neg (by omega), if_neg (by omega)⟩
