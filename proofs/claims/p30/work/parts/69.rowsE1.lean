def shT (m : Nat) : Bool := (List.range 385).all (fun g => okD (shD g m))
theorem shT_1 : shT 1 = true := by decide +kernel
theorem shT_2 : shT 2 = true := by decide +kernel
theorem shT_3 : shT 3 = true := by decide +kernel
theorem shT_4 : shT 4 = true := by decide +kernel
theorem shT_5 : shT 5 = true := by decide +kernel
theorem shT_6 : shT 6 = true := by decide +kernel
theorem shT_7 : shT 7 = true := by decide +kernel
theorem shT_8 : shT 8 = true := by decide +kernel
theorem shT_9 : shT 9 = true := by decide +kernel
theorem shT_10 : shT 10 = true := by decide +kernel
theorem shT_11 : shT 11 = true := by decide +kernel
theorem shT_12 : shT 12 = true := by decide +kernel
theorem shT_13 : shT 13 = true := by decide +kernel
theorem shT_14 : shT 14 = true := by decide +kernel
theorem shT_15 : shT 15 = true := by decide +kernel
theorem shT_16 : shT 16 = true := by decide +kernel
theorem shT_17 : shT 17 = true := by decide +kernel
theorem shT_18 : shT 18 = true := by decide +kernel
theorem shT_19 : shT 19 = true := by decide +kernel
theorem shT_20 : shT 20 = true := by decide +kernel
theorem shT_21 : shT 21 = true := by decide +kernel
theorem shT_22 : shT 22 = true := by decide +kernel
theorem shT_23 : shT 23 = true := by decide +kernel
theorem shT_24 : shT 24 = true := by decide +kernel
theorem shT_all {m : Nat} (h1 : 1 ≤ m) (h2 : m ≤ 24) : shT m = true := by
  rcases (show m = 1 ∨ m = 2 ∨ m = 3 ∨ m = 4 ∨ m = 5 ∨ m = 6 ∨ m = 7 ∨ m = 8 ∨ m = 9 ∨ m = 10 ∨ m = 11 ∨ m = 12 ∨ m = 13 ∨ m = 14 ∨ m = 15 ∨ m = 16 ∨ m = 17 ∨ m = 18 ∨ m = 19 ∨ m = 20 ∨ m = 21 ∨ m = 22 ∨ m = 23 ∨ m = 24 by omega) with rfl | rfl | rfl | rfl | rfl | rfl | rfl | rfl | rfl | rfl | rfl | rfl | rfl | rfl | rfl | rfl | rfl | rfl | rfl | rfl | rfl | rfl | rfl | rfl
  · exact shT_1
  · exact shT_2
  · exact shT_3
  · exact shT_4
  · exact shT_5
  · exact shT_6
  · exact shT_7
  · exact shT_8
  · exact shT_9
  · exact shT_10
  · exact shT_11
  · exact shT_12
  · exact shT_13
  · exact shT_14
  · exact shT_15
  · exact shT_16
  · exact shT_17
  · exact shT_18
  · exact shT_19
  · exact shT_20
  · exact shT_21
  · exact shT_22
  · exact shT_23
  · exact shT_24
theorem shD_ok {g m : Nat} (hg : g ≤ 384) (h1 : 1 ≤ m) (h2 : m ≤ 24) : okD (shD g m) = true := (List.all_eq_true.mp (shT_all h1 h2)) g (List.mem_range.mpr (by omega))
theorem one_ok : okD FP.dconst1 = true := by decide +kernel
