-- objects and arrays that are made
section ROWS5
variable {κ : KX} {Y : MD} {d mc ms N : Nat} {T : Ty} {pc : Nat} {L : List (Option MV)} {st : List MV} {v : Ct} {k n : Nat} {Q : State → Prop}
theorem CX.room (C : CX κ Y d mc ms) : (match κ with | (_, _, _, R, _, _, _, _, _, _, _, _) => d ≤ R.frames ∧ 80 * d ≤ R.locals ∧ mc ≤ R.cells ∧ ms ≤ R.slots) := by
  obtain ⟨p, l, e, R, s, m, args, below, meth, c', b, δ⟩ := κ
  obtain ⟨-, -, -, -, -, -, -, -, -, -, -, -, h1, h2, h3, h4⟩ := C
  exact ⟨h1, h2, h3, h4⟩
theorem M_new (C : CX κ Y d mc ms) {idx c Nn : Nat} {Cn : String} {Tt : u_T} (hc : CF c Cn Tt Nn) (hcl : Cond.classLink Y.1.cls idx Cn ∈ GW) (hins : Cond.instantiable Cn Nn ∈ GW) (hini : Cond.initialized Cn ∈ GW)
    (hk : k + 1 ≤ mc ∧ n + Nn ≤ ms) (hdv : ∀ j, j < Nn → (if fldI c j = true then parseFieldDescriptor (Tt j).2.2.1 = some .int else ∃ ty, parseFieldDescriptor (Tt j).2.2.1 = some ty ∧ defaultValue ty = .null))
    (hd : decode Y.2.1 pc = .ok (.new idx, 3)) (kk : M κ (N + 1) (newT T N (c + 5) 0) (pc + 3) L (vR N :: st) (newV v N 0) (k + 1) (n + Nn) Q) : M κ N T pc L st v k n Q := by
  obtain ⟨p, l, e, R, s, m, args, below, meth, c', b, δ⟩ := κ
  obtain ⟨hx', hb, hown, hts, hKK, hEX, hlocks, hnm, hret, hml, -, -, hr1, hr2, hr3, hr4⟩ := C
  obtain ⟨hc, hin, ⟨ty, hty⟩, -⟩ := hc
  intro H locs ls hR hS hL
  have hKn := hKK.1 c _ hc
  refine W.newcK hx' hb hown (hts _ hcl) (hts _ hins) (hts _ hini) rfl hd (by omega) (by omega) hKn.2.1 rfl fun H1 kC hkC e1 z1 o1 => ?_
  have h9 := kk H1 locs ls (hR.push (t := (c + 5, 0, fun _ => -1)) (f := fun _ => 0) z1 o1 (fun _ => rfl) (fun _ => rfl) (fun _ => by decide) ?_) ⟨Nat.le_trans hS.1 (by omega), fun x h1 h2 => (o1 x (Nat.lt_of_lt_of_le h1 hS.1)).trans (hS.2.1 x h1 h2), hS.2.2⟩ hL
  · simp only [List.map_cons, tv, rf_pos (Int.natCast_nonneg N), Int.toNat_natCast] at h9
    rw [hR.1]
    exact h9
  · rw [← hR.1]
    refine ⟨_, hc, (u_born ty hts hin hKn hkC e1 hty).to fun j hj => ?_⟩
    have h2 := hdv j hj
    unfold objV
    split at h2
    · rename_i hf
      rw [if_pos hf]
      have h3 := (hty j hj).symm.trans h2
      rw [Option.some.inj h3]
      rfl
    · rename_i hf
      obtain ⟨ty2, h3, h4⟩ := h2
      rw [if_neg hf, Option.some.inj ((hty j hj).symm.trans h3), h4]
      rfl
theorem cls_of {δ : DL} {U : State} (hK : KK δ U) {t : Nat} {cA : ClassId} {ty : FieldType} (h : [(δ.2.1, FieldType.int), (δ.2.1, .int), (δ.2.1, .int), (δ.2.2.2.2, .object RX0)][t]? = some (cA, ty)) {cB : ClassId} (hB : U.vm.findClass ("[" ++ ty.toString) = some cB) : cB = cA := by
  have h2 := (hK.2 t _ h).2
  cases ty with
  | object C =>
    obtain ⟨_, _, -, -, -, h3⟩ := h2
    exact Option.some.inj (hB.symm.trans h3)
  | _ => exact Option.some.inj (hB.symm.trans h2)
theorem M_newI (C : CX κ Y d mc ms) {z : Int} (harr : Cond.arrayClass .int ∈ GW) (hz : 0 ≤ z ∧ z < 65536) (hk : k + 1 ≤ mc ∧ n + z.toNat ≤ ms)
    (hd : decode Y.2.1 pc = .ok (.newarray .int, 2)) (kk : M κ (N + 1) (newT T N 1 z.toNat) (pc + 2) L (vR N :: st) (newV v N 0) (k + 1) (n + z.toNat) Q) : M κ N T pc L (vI z :: st) v k n Q := by
  obtain ⟨p, l, e, R, s, m, args, below, meth, c', b, δ⟩ := κ
  obtain ⟨hx', hb, hown, hts, hKK, hEX, hlocks, hnm, hret, hml, -, -, hr1, hr2, hr3, hr4⟩ := C
  intro H locs ls hR hS hL
  refine va_newaK (atype := .int) hx' hb (hts _ harr) rfl hd rfl (ofInt_neg ⟨hz.1, by omega⟩) (ofInt_nat ⟨hz.1, by omega⟩) (by show z.toNat * 4 ≤ 536870912; omega) (by omega) (by omega) rfl fun H1 cA e1 z1 o1 hAr hNm => ?_
  have hcA : cA = δ.2.1 := cls_of hKK (t := 0) rfl hNm
  subst hcA
  have h9 := kk H1 locs ls (hR.push (t := (1, z.toNat, fun _ => -1)) (f := fun _ => 0) z1 o1 (fun _ => rfl) (fun _ => rfl) (fun _ => by decide) (by rw [← hR.1]; exact e1)) ⟨Nat.le_trans hS.1 (by omega), fun x h1 h2 => (o1 x (Nat.lt_of_lt_of_le h1 hS.1)).trans (hS.2.1 x h1 h2), hS.2.2⟩ hL
  simp only [List.map_cons, tv, rf_pos (Int.natCast_nonneg N), Int.toNat_natCast] at h9
  rw [hR.1]
  exact h9
/-- an array of Disks -/
theorem M_newD (C : CX κ Y d mc ms) {z : Int} {idx : Nat} (hcl : Cond.classLink Y.1.cls idx RX0 ∈ GW) (hz : 0 ≤ z ∧ z < 65536) (hk : k + 1 ≤ mc ∧ n + z.toNat ≤ ms)
    (hd : decode Y.2.1 pc = .ok (.anewarray idx, 3)) (kk : M κ (N + 1) (newT T N 4 z.toNat) (pc + 3) L (vR N :: st) (newV v N (-1)) (k + 1) (n + z.toNat) Q) : M κ N T pc L (vI z :: st) v k n Q := by
  obtain ⟨p, l, e, R, s, m, args, below, meth, c', b, δ⟩ := κ
  obtain ⟨hx', hb, hown, hts, hKK, hEX, hlocks, hnm, hret, hml, -, -, hr1, hr2, hr3, hr4⟩ := C
  intro H locs ls hR hS hL
  have hnat : (Int32.ofInt z).toNatClampNeg = z.toNat := ofInt_nat ⟨hz.1, by omega⟩
  refine W.anew hx' hb hown (hts _ hcl) (va_AO.use hEX.2.2.2.2.2) rfl hd rfl (ofInt_neg ⟨hz.1, by omega⟩) (by rw [hnat]; omega) (by omega) (by rw [hnat]; omega) fun cA kA comp f1 f2 f3 f4 => ?_
  rw [hnat]
  generalize hH1 : H.push ({ cls := cA, slots := Array.replicate z.toNat .null, vm := .none } : Cell) = H1
  have z1 : H1.size = H.size + 1 := by rw [← hH1, Array.size_push]
  have e1 : H1[H.size]? = some (arrV cA z.toNat (fun _ => .null)) := by rw [← hH1, Array.getElem?_push_size, ← arrV_new]
  have o1 : ∀ q : Nat, q < H.size → H1[q]? = H[q]? := fun q hq => by rw [← hH1, Array.getElem?_push, if_neg (Nat.ne_of_lt hq)]
  have hcA : cA = δ.2.2.2.2 := cls_of hKK (t := 3) rfl f1
  subst hcA
  have h9 := kk H1 locs ls (hR.push (t := (4, z.toNat, fun _ => -1)) (f := fun _ => -1) z1 o1 (fun _ => rfl) (fun _ => rfl) (fun _ => by decide) (by rw [← hR.1]; exact e1)) ⟨Nat.le_trans hS.1 (by omega), fun x h1 h2 => (o1 x (Nat.lt_of_lt_of_le h1 hS.1)).trans (hS.2.1 x h1 h2), hS.2.2⟩ hL
  simp only [List.map_cons, tv, rf_pos (Int.natCast_nonneg N), Int.toNat_natCast] at h9
  rw [hR.1]
  exact h9
/-- Object.<init> -/
theorem M_objInit (C : CX κ Y d mc ms) {idx : Nat} {x : Int} (h0 : 0 ≤ x) (hl1 : Cond.methodLink Y.1.cls idx Lib.objectInit ∈ GW) (hl2 : Cond.instanceMethod Lib.objectInit ∈ GW) (hl3 : Cond.code Lib.objectInit ⟨#[0xb1]⟩ 1 none ∈ GW) (hdd : 1 ≤ d)
    (hst : (st.map fun x => if mc2 x = true then 2 else 1).sum ≤ 8) (hd : decode Y.2.1 pc = .ok (.invokespecial idx, 3)) (kk : M κ N T (pc + 3) L st v k n Q) : M κ N T pc L (vR x :: st) v k n Q := by
  obtain ⟨p, l, e, R, s, m, args, below, meth, c', b, δ⟩ := κ
  obtain ⟨hx', hb, hown, hts, hKK, hEX, hlocks, hnm, hret, hml, -, -, hr1, hr2, hr3, hr4⟩ := C
  intro H locs ls hR hS hL
  have hw : ((st.map (tv b)).map fun v => v.category).sum ≤ 8 := by
    rw [List.map_map]
    rw [show (Value.category ∘ tv b) = (fun x => if mc2 x = true then 2 else 1) from funext fun x => tv_cat b x]
    exact hst
  simp only [List.map_cons, tv, rf_pos h0]
  exact W.objInit hx' hb hown (hts _ hl1) (hts _ hl2) (hts _ hl3) rfl hL.2.1 rfl hd (by omega) (show 2 * 0 + ((st.map (tv b)).map fun v => v.category).sum + 12 ≤ R.locals by omega) (kk H locs ls hR hS hL)
end ROWS5
