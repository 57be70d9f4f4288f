theorem and31 (a : Int32) : ∃ o : Nat, o ≤ 31 ∧ a &&& Int32.ofInt 31 = Int32.ofInt (o : Int) := by
  refine ⟨(a.toBitVec &&& 31#32).toNat, ?_, ?_⟩
  · rw [BitVec.toNat_and]
    exact Nat.and_le_right
  · apply Int32.toBitVec_inj.mp
    rw [Int32.toBitVec_and, Int32.toBitVec_ofInt, Int32.toBitVec_ofInt, BitVec.ofInt_natCast, BitVec.ofNat_toNat, BitVec.setWidth_eq]
    rfl
/-- the base of the cells is the heap's end when the law begins -/
def SB (κ : KX) : Prop := match κ with
  | (_, _, _, _, s, _, _, _, _, _, b, _) => s.heap.size = b
section ROWSL
variable {κ : KX} {Y : MD} {d mc ms N : Nat} {T : Ty} {pc : Nat} {L : List (Option MV)} {st : List MV} {v : Ct} {k n : Nat} {Q : State → Prop}
theorem M_iand31 (C : CX κ Y d mc ms) {x : Int} (hd : decode Y.2.1 pc = .ok (.iand, 1)) (kk : ∀ o : Nat, o ≤ 31 → M κ N T (pc + 1) L (vI (o : Int) :: st) v k n Q) : M κ N T pc L (vI 31 :: vI x :: st) v k n Q := by
  obtain ⟨o, h1, h2⟩ := and31 (Int32.ofInt x)
  have kk := kk o h1
  obtain ⟨p, l, e, R, s, m, args, below, meth, c, b, δ⟩ := κ
  obtain ⟨hx, hb, hown, hts, hKK, hEX, hlocks, hnm, hret, hml, -⟩ := C
  intro H locs ls hR hS hL
  have h3 := (kk H locs ls hR hS hL)
  simp only [List.map_cons, tv, ← h2] at h3
  exact lv_iand hx hb hd h3
theorem M_sz (hb : SB κ) (kk : N ≤ k → M κ N T pc L st v k n Q) : M κ N T pc L st v k n Q := by
  obtain ⟨p, l, e, R, s, m, args, below, meth, c, b, δ⟩ := κ
  intro H locs ls hR hS hL T0 hT X
  have h1 : T0.heap.size ≤ s.heap.size + k := X.same.2.2.1
  have h2 : N ≤ k := by
    have h3 := hR.1
    have h4 : s.heap.size = b := hb
    rw [hT] at h1
    omega
  exact kk h2 H locs ls hR hS hL T0 hT X
end ROWSL
