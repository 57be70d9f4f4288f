def cwN (K O Z B W : Nat → Int) (b : Nat) : Int := if K b = 3 then 0 else sumN (fun f => Bi (hsB O Z B f b && decide (W f = 0))) 10
theorem cwN_bd (K O Z B W : Nat → Int) (b : Nat) : 0 ≤ cwN K O Z B W b ∧ cwN K O Z B W b ≤ 10 := by
  have := sumN_bd (g := fun f => Bi (hsB O Z B f b && decide (W f = 0))) (a := 1) (by decide) 10 (fun i _ => Bi_bd _)
  unfold cwN
  split <;> omega
