def ARG (κ : KX) (q len : Nat) (f : Nat → Int) : Prop := match κ with
  | (_, _, _, _, s, _, _, _, _, _, b, δ) => q < s.heap.size ∧ q < b ∧ (∃ scr, s.heap[q]? = some scr ∧ s.isArrayOf scr .int ∧ scr.vm ≠ VmData.unknown ∧ scr.slots.size = len ∧ ∀ j, j < len → scr.slots[j]? = some (.int (Int32.ofInt (f j)))) ∧ ∀ j, i32 (f j)
section ROWSJ
variable {κ : KX} {Y : MD} {d mc ms N : Nat} {T : Ty} {pc : Nat} {L : List (Option MV)} {st : List MV} {v : Ct} {k n : Nat} {Q : State → Prop}
end ROWSJ
