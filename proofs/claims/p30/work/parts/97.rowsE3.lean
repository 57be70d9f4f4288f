def boT (m : Nat) : Bool := (List.range (16 * m + 1)).all (fun g => boB (shD g m))
theorem boT_1 : boT 1 = true := by decide +kernel
theorem boT_2 : boT 2 = true := by decide +kernel
theorem boT_3 : boT 3 = true := by decide +kernel
theorem boT_4 : boT 4 = true := by decide +kernel
theorem boT_5 : boT 5 = true := by decide +kernel
theorem boT_6 : boT 6 = true := by decide +kernel
theorem boT_7 : boT 7 = true := by decide +kernel
theorem boT_8 : boT 8 = true := by decide +kernel
theorem boT_9 : boT 9 = true := by decide +kernel
theorem boT_10 : boT 10 = true := by decide +kernel
theorem boT_11 : boT 11 = true := by decide +kernel
theorem boT_12 : boT 12 = true := by decide +kernel
theorem boT_13 : boT 13 = true := by decide +kernel
theorem boT_14 : boT 14 = true := by decide +kernel
theorem boT_15 : boT 15 = true := by decide +kernel
theorem boT_16 : boT 16 = true := by decide +kernel
theorem boT_17 : boT 17 = true := by decide +kernel
theorem boT_18 : boT 18 = true := by decide +kernel
theorem boT_19 : boT 19 = true := by decide +kernel
theorem boT_20 : boT 20 = true := by decide +kernel
theorem boT_21 : boT 21 = true := by decide +kernel
theorem boT_22 : boT 22 = true := by decide +kernel
theorem boT_23 : boT 23 = true := by decide +kernel
theorem boT_24 : boT 24 = true := by decide +kernel
theorem bo_one : boB FP.dconst1 = true := by decide +kernel
theorem boT_all {m : Nat} (h1 : 1 ≤ m) (h2 : m ≤ 24) : boT m = true := by
  rcases (show m = 1 ∨ m = 2 ∨ m = 3 ∨ m = 4 ∨ m = 5 ∨ m = 6 ∨ m = 7 ∨ m = 8 ∨ m = 9 ∨ m = 10 ∨ m = 11 ∨ m = 12 ∨ m = 13 ∨ m = 14 ∨ m = 15 ∨ m = 16 ∨ m = 17 ∨ m = 18 ∨ m = 19 ∨ m = 20 ∨ m = 21 ∨ m = 22 ∨ m = 23 ∨ m = 24 by omega) with rfl | rfl | rfl | rfl | rfl | rfl | rfl | rfl | rfl | rfl | rfl | rfl | rfl | rfl | rfl | rfl | rfl | rfl | rfl | rfl | rfl | rfl | rfl | rfl
  · exact boT_1
  · exact boT_2
  · exact boT_3
  · exact boT_4
  · exact boT_5
  · exact boT_6
  · exact boT_7
  · exact boT_8
  · exact boT_9
  · exact boT_10
  · exact boT_11
  · exact boT_12
  · exact boT_13
  · exact boT_14
  · exact boT_15
  · exact boT_16
  · exact boT_17
  · exact boT_18
  · exact boT_19
  · exact boT_20
  · exact boT_21
  · exact boT_22
  · exact boT_23
  · exact boT_24
theorem boT_ok {g m : Nat} (h1 : 1 ≤ m) (h2 : m ≤ 24) (hg : g ≤ 16 * m) : boB (shD g m) = true := (List.all_eq_true.mp (boT_all h1 h2)) g (List.mem_range.mpr (by omega))
