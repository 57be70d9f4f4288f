def ARG (κ : KX) (q len : Nat) (f : Nat → Int) : Prop := match κ with
  | (_, _, _, _, s, _, _, _, _, _, b, δ) => q < s.heap.size ∧ q < b ∧ (∃ scr, s.heap[q]? = some scr ∧ s.isArrayOf scr .int ∧ scr.vm ≠ VmData.unknown ∧ scr.slots.size = len ∧ ∀ j, j < len → scr.slots[j]? = some (.int (Int32.ofInt (f j)))) ∧ ∀ j, i32 (f j)
section ROWSJ
variable {κ : KX} {Y : MD} {d mc ms N : Nat} {T : Ty} {pc : Nat} {L : List (Option MV)} {st : List MV} {v : Ct} {k n : Nat} {Q : State → Prop}
theorem M_aloadA_n (C : CX κ Y d mc ms) {i : Fin 4} {q : Nat} (hd : decode Y.2.1 pc = .ok (.aload_n i, 1)) (hl : L[(i : Nat)]? = some (some (vR (-(q : Int) - 2)))) (kk : M κ N T (pc + 1) L (vR (-(q : Int) - 2) :: st) v k n Q) : M κ N T pc L st v k n Q := by
  obtain ⟨p, l, e, R, s, m, args, below, meth, c, b, δ⟩ := κ
  obtain ⟨hx, hb, -⟩ := C
  intro H locs ls hR hS hL
  have h1 := hL.at hl
  have h2 := kk H locs ls hR hS hL
  simp only [tv, List.map_cons, rf_arr (b := b) (q := q) rfl] at h1 h2
  exact lv_aload_n hx hb hd rfl h1 h2
theorem M_alenA (C : CX κ Y d mc ms) {q len : Nat} {f : Nat → Int} (hA : ARG κ q len f) (hd : decode Y.2.1 pc = .ok (.arraylength, 1)) (kk : M κ N T (pc + 1) L (vI (len : Int) :: st) v k n Q) : M κ N T pc L (vR (-(q : Int) - 2) :: st) v k n Q := by
  obtain ⟨p, l, e, R, s, m, args, below, meth, c', b, δ⟩ := κ
  obtain ⟨hx', hb, hown, hts, hKK, hEX, hlocks, hnm, hret, hml, -⟩ := C
  obtain ⟨a1, a2, ⟨scr, x1, x2, x3, x4, x5⟩, a4⟩ := hA
  intro H locs ls hR hS hL
  have h1 : H[q]? = some scr := (hS.2.1 q a1 (fun z => absurd a2 (Nat.not_lt_of_le z))).trans x1
  have h9 := kk H locs ls hR hS hL
  simp only [List.map_cons, tv, rf_arr (b := b) (q := q) rfl] at h9 ⊢
  exact W.alen (n := Int32.ofInt (len : Int)) hx' hb h1 x2 (by rw [x4]; exact (Int32.ofInt_eq_ofNat).symm) rfl rfl hd h9
theorem M_ialdA (C : CX κ Y d mc ms) {q len g : Nat} {f : Nat → Int} {j : Int} (hA : ARG κ q len f) (hj : j = (g : Int)) (hg : g < len) (hl : (len : Int) < 2147483648) (hd : decode Y.2.1 pc = .ok (.iaload, 1)) (kk : i32 (f g) → M κ N T (pc + 1) L (vI (f g) :: st) v k n Q) : M κ N T pc L (vI j :: vR (-(q : Int) - 2) :: st) v k n Q := by
  subst hj
  obtain ⟨p, l, e, R, s, m, args, below, meth, c', b, δ⟩ := κ
  obtain ⟨hx', hb, hown, hts, hKK, hEX, hlocks, hnm, hret, hml, -⟩ := C
  obtain ⟨a1, a2, ⟨scr, x1, x2, x3, x4, x5⟩, a4⟩ := hA
  intro H locs ls hR hS hL
  have h1 : H[q]? = some scr := (hS.2.1 q a1 (fun z => absurd a2 (Nat.not_lt_of_le z))).trans x1
  have h9 := kk (a4 g) H locs ls hR hS hL
  simp only [List.map_cons, tv, rf_arr (b := b) (q := q) rfl] at h9 ⊢
  exact W.iald (v := .int (Int32.ofInt (f g))) hx' hb h1 x2 x3 (by show ¬ (_ ∨ scr.slots.size ≤ _); rw [x4]; exact vin_of ⟨by omega, by omega⟩ hl) (by show scr.slots[_]? = _; rw [ofInt_nat ⟨by omega, by omega⟩, Int.toNat_natCast]; exact x5 g hg) rfl rfl hd h9
end ROWSJ
