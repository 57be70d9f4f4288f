theorem c_X7_greatestR {N : Nat} {T : Ty} {r : Nat → Int} {c : Int} {v : Ct}  (hT : TT T) (hV : DV v 1 r c)  : Runs mX7_greatest 4 0 0 [vR 0] N T v (some (vI (grF r))) N T v := by
  have hH : DR (v 2) (v 3) (v 4) (v 5) (v 6) (v 7) (v 8) (v 9) r := hV.1
  have hD := hH.DI
  rw [← hH.gr]
  exact c_X7_greatest hT hD
theorem c_X7_weakestR {N : Nat} {T : Ty} {r : Nat → Int} {c : Int} {v : Ct}  (hT : TT T) (hV : DV v 1 r c)  : Runs mX7_weakest 3 0 0 [vR 0] N T v (some (vI (wkN (wkB r) 24).1)) N T v := by
  have hH : DR (v 2) (v 3) (v 4) (v 5) (v 6) (v 7) (v 8) (v 9) r := hV.1
  have hD := hH.DI
  rw [← hH.wk]
  exact c_X7_weakest hT
