section ROWSF
variable {κ : KX} {Y : MD} {d mc ms N : Nat} {T : Ty} {pc : Nat} {L : List (Option MV)} {st : List MV} {v : Ct} {k n : Nat} {Q : State → Prop}
theorem A_alen (C : CX κ Y d mc ms) {a len : Nat} {lk : Nat → Int} {i : Int} (hi : i = (a : Int)) (hT : T a = (1, len, lk))
    (hd : decode Y.2.1 pc = .ok (.arraylength, 1)) (kk : M κ N T (pc + 1) L (vI (len : Int) :: st) v k n Q) : M κ N T pc L (vR i :: st) v k n Q := by
  subst hi
  obtain ⟨p, l, e, R, s, m, args, below, meth, c', b, δ⟩ := κ
  obtain ⟨hx', hb, hown, hts, hKK, hEX, hlocks, hnm, hret, hml, -⟩ := C
  intro H locs ls hR hS hL
  have h1 := (hR.2.2 a (by rw [hT]; exact Nat.succ_ne_zero _)).2
  rw [hT] at h1
  have h9 := kk H locs ls hR hS hL
  simp only [List.map_cons, tv, rf_pos (Int.natCast_nonneg a), Int.toNat_natCast] at h9 ⊢
  exact W.alen (n := Int32.ofInt (len : Int)) hx' hb h1 ((hKK.2 0 _ rfl).1 len (fun j => .int (Int32.ofInt (v a j)))) (by rw [arrV_size]; exact (Int32.ofInt_eq_ofNat).symm) rfl rfl hd h9
end ROWSF
theorem rs_back (R : Nat → Int) (i : Nat) (x : Int) : rs (rs R i x) i (R i) = R := by
  funext j
  unfold rs
  by_cases h : j = i
  · subst h; rw [if_pos rfl]
  · rw [if_neg h, if_neg h]
def zlN (Ld : Nat → Int) (i : Nat) : Nat → Int := fun b => if b < i then 0 else Ld b
theorem zlN_0 (Ld : Nat → Int) : zlN Ld 0 = Ld := by funext b; exact if_neg (Nat.not_lt_zero b)
theorem zlN_s (Ld : Nat → Int) (i : Nat) : rs (zlN Ld i) i 0 = zlN Ld (i + 1) := by
  funext b
  unfold rs zlN
  by_cases h : b = i
  · subst h; rw [if_pos rfl, if_pos (Nat.lt_succ_self b)]
  · rw [if_neg h]
    by_cases q : b < i
    · rw [if_pos q, if_pos (by omega)]
    · rw [if_neg q, if_neg (by omega)]
