-- fields
/-- class c of the table, with what its fields need -/
def CF (c : Nat) (C : String) (Tt : u_T) (Nn : Nat) : Prop := vwCl[c]? = some (C, Tt, Nn) ∧ (∀ w ∈ u_ws C Tt Nn, w ∈ GW) ∧ (∃ ty : Nat → FieldType, ∀ k, k < Nn → parseFieldDescriptor (Tt k).2.2.1 = some (ty k)) ∧ (∀ a, a < Nn → ∀ b, b < Nn → a ≠ b → (Tt a).2.1 ≠ (Tt b).2.1)
/-- field kf of class c, as the class own reads it by its place idx -/
def FL (own : String) (idx c kf : Nat) : Prop := ∃ (C : String) (Tt : u_T) (Nn : Nat), CF c C Tt Nn ∧ kf < Nn ∧ (Tt kf).1 = C ∧ (Cond.fieldLink own idx C (Tt kf).2.1 (Tt kf).2.2.1 ∈ GW ∨ ∃ host, Cond.fieldLinkNest own idx C (Tt kf).2.1 (Tt kf).2.2.1 host ∈ OW)
theorem obj_P {b : Nat} {δ : DL} {c n0 a : Nat} {lk f : Nat → Int} {H : Heap} {C : String} {Tt : u_T} {Nn : Nat} (h : cellR b δ (c + 5, n0, lk) f a H) (hc : vwCl[c]? = some (C, Tt, Nn)) :
    va_P δ.1 vwCl [(a, .inr (c, (List.range Nn).map (objV b c lk f)))] H := by
  intro k q hk
  have hz : k < 1 := (List.getElem?_eq_some_iff.mp hk).1
  rw [show k = 0 by omega] at hk
  cases hk
  obtain ⟨r, h1, h2⟩ := h
  have hr : r = (C, Tt, Nn) := Option.some.inj (h1.symm.trans hc)
  subst hr
  refine ⟨_, hc, h2.to fun k hk => ?_⟩
  simp [vp_V, List.getD_eq_getElem?_getD, hk]
theorem objV_int {b c : Nat} {lk f : Nat → Int} {kf : Nat} (h : fldI c kf = true) : objV b c lk f kf = .int (Int32.ofInt (f kf)) := by
  unfold objV
  rw [if_pos h]
theorem objV_ref {b c : Nat} {lk f : Nat → Int} {kf : Nat} (h : fldI c kf = false) : objV b c lk f kf = rf b (lk kf) := by
  unfold objV
  rw [if_neg (by rw [h]; decide)]
section ROWS4
variable {κ : KX} {Y : MD} {d mc ms N : Nat} {T : Ty} {pc : Nat} {L : List (Option MV)} {st : List MV} {v : Ct} {k n : Nat} {Q : State → Prop}
theorem M_rd (C : CX κ Y d mc ms) (i j : Nat) (kk : i32 (v i j) → M κ N T pc L st v k n Q) : M κ N T pc L st v k n Q := by
  obtain ⟨p, l, e, R, s, m, args, below, meth, c', b, δ⟩ := κ
  intro H locs ls hR hS hL
  exact kk (hR.2.1 i j) H locs ls hR hS hL
theorem M_get (C : CX κ Y d mc ms) {idx c kf : Nat} (F : FL Y.1.cls idx c kf) {i : Int} (h0 : 0 ≤ i) {x : MV} (hT : (T i.toNat).1 = c + 5) (hx : ∀ b, objV b c (T i.toNat).2.2 (v i.toNat) kf = tv b x)
    (hd : decode Y.2.1 pc = .ok (.getfield idx, 3)) (kk : M κ N T (pc + 3) L (x :: st) v k n Q) : M κ N T pc L (vR i :: st) v k n Q := by
  obtain ⟨p, l, e, R, s, m, args, below, meth, c', b, δ⟩ := κ
  obtain ⟨hx', hb, hown, hts, hKK, hEX, hlocks, hnm, hret, hml, -⟩ := C
  intro H locs ls hR hS hL
  obtain ⟨Cn, Tt, Nn, ⟨hc, hin, -, -⟩, hk, hdec, hlink⟩ := F
  have h1 := (hR.2.2 i.toNat (by rw [hT]; omega)).2
  have h2 : cellR b δ (c + 5, (T i.toNat).2.1, (T i.toNat).2.2) (v i.toNat) (b + i.toNat) H := by
    rw [← hT]; exact h1
  have hP := obj_P h2 hc
  have hv : ((List.range Nn).map (objV b c (T i.toNat).2.2 (v i.toNat)))[kf]? = some (tv b x) := by
    rw [List.getElem?_map, List.getElem?_range hk, ← hx b]; rfl
  have h9 := kk H locs ls hR hS hL
  simp only [List.map_cons, tv, rf_pos h0] at h9 ⊢
  rcases hlink with hlink | ⟨host, hlink⟩
  · exact va_get hx' hb hts hin hown hKK hP 0 rfl hc kf hk (hts _ hlink) (fun x hx => by rw [hdec] at hx; exact hx) hv hd h9
  · exact va_getN hx' hb hts hin hown hKK hP 0 rfl hc kf hk (hEX.ow hlink) (fun x hx => by rw [hdec] at hx; exact hx) hv hd h9
theorem M_getI (C : CX κ Y d mc ms) {idx c kf n0 : Nat} {lk : Nat → Int} (F : FL Y.1.cls idx c kf) (hi : fldI c kf = true) {i : Int} (h0 : 0 ≤ i) (hT : T i.toNat = (c + 5, n0, lk))
    (hd : decode Y.2.1 pc = .ok (.getfield idx, 3)) (kk : i32 (v i.toNat kf) → M κ N T (pc + 3) L (vI (v i.toNat kf) :: st) v k n Q) : M κ N T pc L (vR i :: st) v k n Q :=
  M_rd C _ _ fun h9 => M_get C F h0 (by rw [hT]) (fun b => objV_int hi) hd (kk h9)
theorem M_getR (C : CX κ Y d mc ms) {idx c kf n0 : Nat} {lk : Nat → Int} (F : FL Y.1.cls idx c kf) (hi : fldI c kf = false) {i j : Int} (h0 : 0 ≤ i) (hT : T i.toNat = (c + 5, n0, lk)) (hj : lk kf = j)
    (hd : decode Y.2.1 pc = .ok (.getfield idx, 3)) (kk : M κ N T (pc + 3) L (vR j :: st) v k n Q) : M κ N T pc L (vR i :: st) v k n Q :=
  M_get C F h0 (by rw [hT]) (fun b => by rw [objV_ref hi, hT]; subst hj; rfl) hd kk
theorem M_putI (C : CX κ Y d mc ms) {idx c kf n0 : Nat} {lk : Nat → Int} (F : FL Y.1.cls idx c kf) (hi : fldI c kf = true) (hfin : ∀ C Tt Nn, vwCl[c]? = some (C, Tt, Nn) → (Tt kf).2.2.2 = false ∧ parseFieldDescriptor (Tt kf).2.2.1 = some .int) {i x : Int} (h0 : 0 ≤ i) (hT : T i.toNat = (c + 5, n0, lk)) (hx32 : i32 x)
    (hd : decode Y.2.1 pc = .ok (.putfield idx, 3)) (kk : M κ N T (pc + 3) L st (up v i.toNat kf x) k n Q) : M κ N T pc L (vI x :: vR i :: st) v k n Q := by
  obtain ⟨p, l, e, R, s, m, args, below, meth, c', b, δ⟩ := κ
  obtain ⟨hx', hb, hown, hts, hKK, hEX, hlocks, hnm, hret, hml, -⟩ := C
  intro H locs ls hR hS hL
  obtain ⟨Cn, Tt, Nn, ⟨hc, hin, ⟨ty0, hty⟩, hnm2⟩, hk, hdec, hlink⟩ := F
  obtain ⟨hf1, hf2⟩ := hfin _ _ _ hc
  have h1 := (hR.2.2 i.toNat (by rw [hT]; show c + 5 ≠ 0; omega)).2
  rw [hT] at h1
  obtain ⟨r, hr1, cell, q1, q2, q3, q4⟩ := h1
  have hr : r = (Cn, Tt, Nn) := Option.some.inj (hr1.symm.trans hc)
  subst hr
  have hap := va_apart (own := Y.1.cls) hts hin ty0 hty hnm2 hKK hc
  obtain ⟨hSl, hfc, kC, hkC, hkind⟩ := hKK.1 c _ hc
  obtain ⟨cf, kf2, fi, f, hif, hsl⟩ := hSl kf hk
  have hlay := hts _ (hin _ (u_in_lay hk))
  unfold u_lay at hlay
  rw [if_neg (by rw [hf1]; decide)] at hlay
  have hst := (u_facts hfc hkC (u_lays hts hin hk) hif).1
  have h6 := u_store (v := .int (Int32.ofInt x)) hfc hkC hkind hlay hif hf2 rfl rfl
  have fin : ∀ H' : Heap, H'[b + i.toNat]? = some (cell.setSlot f.slot (.int (Int32.ofInt x))) → H'.size = H.size → (∀ q, q ≠ b + i.toNat → H'[q]? = H[q]?) →
      W p l e R s m args below meth c' H' (locs ++ [⟨b + i.toNat, f.slot⟩]) k n Q (F0 m (pc + 3) ls (st.map (tv b))) := by
    intro H' e1 e2 e3
    rw [hsl] at e1 ⊢
    refine kk H' _ ls (hR.set (by rw [hT]; show c + 5 ≠ 0; omega) e2 e3 (fun _ _ => rfl) (fun a ha => by funext z; simp [up, ha]) (up_i32 hR.2.1 hx32 _ _) ?_) (hS.put e2 e3 (Nat.le_add_right _ _)) hL
    rw [hT]
    refine ⟨_, hc, t_OB.to (V := updV (objV b c lk (v i.toNat)) kf (.int (Int32.ofInt x))) ⟨_, e1, q2, q3, t_set q4 hap hk _⟩ (fun j _ => ?_)⟩
    by_cases hj : j = kf
    · subst hj
      rw [objV_int hi]
      simp [updV, up]
    · simp [updV, up, objV, hj]
  simp only [List.map_cons, tv, rf_pos h0]
  have hif2 : s.fieldFound? Cn (Tt kf).2.1 (Tt kf).2.2.1 = some (cf, kf2, fi, f) := by rw [hdec] at hif; exact hif
  rcases hlink with hlink | ⟨host, hlink⟩
  · exact W.putK hx' hb (f := f) ⟨hown, hts _ hlink, ⟨_, _, _, hif2⟩, hst⟩ (by rw [q2]; exact h6) q1 q3 (by rw [hsl]; exact k2_hasslot (q4 kf hk)) rfl rfl hd fin
  · exact va_WputK hx' hb (f := f) hown (hEX.ow hlink) hif2 hst (by rw [q2]; exact h6) q1 q3 (by rw [hsl]; exact k2_hasslot (q4 kf hk)) rfl rfl hd fin
/-- a final reference field, in its own constructor -/
theorem M_putF (C : CX κ Y d mc ms) {idx c kf n0 : Nat} {lk : Nat → Int} (F : FL Y.1.cls idx c kf) (hi : fldI c kf = false) (hown2 : ∀ C Tt Nn, vwCl[c]? = some (C, Tt, Nn) → C = Y.1.cls ∧ (Tt kf).2.2.2 = true ∧ ∃ ty, parseFieldDescriptor (Tt kf).2.2.1 = some ty ∧ ∀ a, narrow ty (.ref a) = .ref a ∧ fits ty (.ref a) = true) (hlk : ∀ C Tt Nn, vwCl[c]? = some (C, Tt, Nn) → Cond.fieldLink Y.1.cls idx C (Tt kf).2.1 (Tt kf).2.2.1 ∈ GW) (hin2 : Y.1.name = "<init>") {i x : Int} (h0 : 0 ≤ i) (hx0 : 0 ≤ x) (hT : T i.toNat = (c + 5, n0, lk))
    (hd : decode Y.2.1 pc = .ok (.putfield idx, 3)) (kk : M κ N (upL T i.toNat kf x) (pc + 3) L st v k n Q) : M κ N T pc L (vR x :: vR i :: st) v k n Q := by
  obtain ⟨p, l, e, R, s, m, args, below, meth, c', b, δ⟩ := κ
  obtain ⟨hx', hb, hown, hts, hKK, hEX, hlocks, hnm, hret, hml, -⟩ := C
  intro H locs ls hR hS hL
  obtain ⟨Cn, Tt, Nn, ⟨hc, hin, ⟨ty0, hty⟩, hnm2⟩, hk, hdec, -⟩ := F
  obtain ⟨hf0, hf1, ty, hf2, hf3⟩ := hown2 _ _ _ hc
  have hlink := hlk _ _ _ hc
  have h1 := (hR.2.2 i.toNat (by rw [hT]; show c + 5 ≠ 0; omega)).2
  rw [hT] at h1
  obtain ⟨r, hr1, cell, q1, q2, q3, q4⟩ := h1
  have hr : r = (Cn, Tt, Nn) := Option.some.inj (hr1.symm.trans hc)
  subst hr
  have hap := va_apart (own := Y.1.cls) hts hin ty0 hty hnm2 hKK hc
  obtain ⟨hSl, hfc, kC, hkC, hkind⟩ := hKK.1 c _ hc
  obtain ⟨cf, kf2, fi, f, hif, hsl⟩ := hSl kf hk
  have hlay := hts _ (hin _ (u_in_lay hk))
  unfold u_lay at hlay
  rw [if_pos hf1] at hlay
  have hst := (u_facts hfc hkC (u_lays hts hin hk) hif).1
  have hcf : m.cls = cf := by
    obtain ⟨_, _, c9, _, _, _, -, -, hf', -, -, -, hown3, -⟩ := Cond.laysFinal_spec hlay
    have e1 : c9 = cf := by have := hif.symm.trans hf'; simp at this; exact this.1.symm
    rw [hdec, hf0] at hown3
    rw [← e1]; exact Option.some.inj (hown.symm.trans hown3)
  have h6 := u_fits (v := .ref (b + x.toNat)) hfc hkC hkind (Or.inr hlay) hif hf2 (hf3 _).1 (hf3 _).2
  have hif2 : s.fieldFound? Cn (Tt kf).2.1 (Tt kf).2.2.1 = some (cf, kf2, fi, f) := by rw [hdec] at hif; exact hif
  simp only [List.map_cons, tv, rf_pos h0, rf_pos hx0]
  refine W.putFinK hx' hb hown (hts _ hlink) hif2 hst hcf (hnm.trans hin2) (by rw [q2]; exact h6) q1 q3 (by rw [hsl]; exact k2_hasslot (q4 kf hk)) rfl rfl hd fun H' e1 e2 e3 => ?_
  rw [hsl] at e1 ⊢
  refine kk H' _ ls (hR.set (by rw [hT]; show c + 5 ≠ 0; omega) e2 e3 (fun a ha => by simp [upL, ha]) (fun _ _ => rfl) hR.2.1 ?_) (hS.put e2 e3 (Nat.le_add_right _ _)) hL
  have hT2 : upL T i.toNat kf x i.toNat = (c + 5, n0, fun z => if z = kf then x else lk z) := by simp [upL, hT]
  rw [hT2]
  refine ⟨_, hc, t_OB.to (V := updV (objV b c lk (v i.toNat)) kf (.ref (b + x.toNat))) ⟨_, e1, q2, q3, t_set q4 hap hk _⟩ (fun j _ => ?_)⟩
  by_cases hj : j = kf
  · subst hj
    rw [objV_ref hi]
    simp [updV, rf_pos hx0]
  · simp [updV, objV, hj]
-- arrays
theorem vin_of {j : Int} {len : Nat} (h : 0 ≤ j ∧ j < len) (hl : (len : Int) < 2147483648) : ¬ (Int32.ofInt j < 0 ∨ len ≤ (Int32.ofInt j).toNatClampNeg) := by
  rintro (q | q)
  · exact ofInt_neg ⟨h.1, by omega⟩ q
  · rw [ofInt_nat ⟨h.1, by omega⟩] at q
    omega
theorem M_iald (C : CX κ Y d mc ms) {i j : Int} {len : Nat} {lk : Nat → Int} (h0 : 0 ≤ i) (hT : T i.toNat = (1, len, lk)) (hj : 0 ≤ j ∧ j < len) (hl : (len : Int) < 2147483648)
    (hd : decode Y.2.1 pc = .ok (.iaload, 1)) (kk : i32 (v i.toNat j.toNat) → M κ N T (pc + 1) L (vI (v i.toNat j.toNat) :: st) v k n Q) : M κ N T pc L (vI j :: vR i :: st) v k n Q := by
  obtain ⟨p, l, e, R, s, m, args, below, meth, c', b, δ⟩ := κ
  obtain ⟨hx', hb, hown, hts, hKK, hEX, hlocks, hnm, hret, hml, -⟩ := C
  intro H locs ls hR hS hL
  have h1 := (hR.2.2 i.toNat (by rw [hT]; exact Nat.succ_ne_zero _)).2
  rw [hT] at h1
  have h9 := kk (hR.2.1 _ _) H locs ls hR hS hL
  simp only [List.map_cons, tv, rf_pos h0] at h9 ⊢
  exact W.iald (v := .int (Int32.ofInt (v i.toNat j.toNat))) hx' hb h1 ((hKK.2 0 _ rfl).1 len (fun j => .int (Int32.ofInt (v i.toNat j)))) (fun q => by cases q) (by show ¬ (_ ∨ (arrV _ _ _).slots.size ≤ _); rw [arrV_size]; exact vin_of hj hl) (by show (arrV _ _ _).slots[_]? = _; rw [ofInt_nat ⟨hj.1, by omega⟩, arrV_read _ _ (show j.toNat < len by omega)]) rfl rfl hd h9
theorem M_aald (C : CX κ Y d mc ms) {i j : Int} {len : Nat} {lk : Nat → Int} (h0 : 0 ≤ i) (hT : T i.toNat = (4, len, lk)) (hj : 0 ≤ j ∧ j < len) (hl : (len : Int) < 2147483648)
    (hd : decode Y.2.1 pc = .ok (.aaload, 1)) (kk : i32 (v i.toNat j.toNat) → M κ N T (pc + 1) L (vR (v i.toNat j.toNat) :: st) v k n Q) : M κ N T pc L (vI j :: vR i :: st) v k n Q := by
  obtain ⟨p, l, e, R, s, m, args, below, meth, c', b, δ⟩ := κ
  obtain ⟨hx', hb, hown, hts, hKK, hEX, hlocks, hnm, hret, hml, -⟩ := C
  intro H locs ls hR hS hL
  have h1 := (hR.2.2 i.toNat (by rw [hT]; exact Nat.succ_ne_zero _)).2
  rw [hT] at h1
  have h9 := kk (hR.2.1 _ _) H locs ls hR hS hL
  simp only [List.map_cons, tv, rf_pos h0] at h9 ⊢
  exact W.aald (v := rf b (v i.toNat j.toNat)) (ty := .object RX0) hx' hb h1 ((hKK.2 3 _ rfl).1 len (fun j => rf b (v i.toNat j))) rfl (fun q => by cases q) (by show ¬ (_ ∨ (arrV _ _ _).slots.size ≤ _); rw [arrV_size]; exact vin_of hj hl) (by show (arrV _ _ _).slots[_]? = _; rw [ofInt_nat ⟨hj.1, by omega⟩, arrV_read _ _ (show j.toNat < len by omega)]) rfl rfl hd h9
theorem up_row (v : Ct) (i j : Nat) (x : Int) : up v i j x i = fun z => if z = j then x else v i z := by funext z; simp [up]
theorem M_iast (C : CX κ Y d mc ms) {i j x : Int} {len : Nat} {lk : Nat → Int} (h0 : 0 ≤ i) (hT : T i.toNat = (1, len, lk)) (hj : 0 ≤ j ∧ j < len) (hl : (len : Int) < 2147483648) (hx32 : i32 x)
    (hd : decode Y.2.1 pc = .ok (.iastore, 1)) (kk : M κ N T (pc + 1) L st (up v i.toNat j.toNat x) k n Q) : M κ N T pc L (vI x :: vI j :: vR i :: st) v k n Q := by
  obtain ⟨p, l, e, R, s, m, args, below, meth, c', b, δ⟩ := κ
  obtain ⟨hx', hb, hown, hts, hKK, hEX, hlocks, hnm, hret, hml, -⟩ := C
  intro H locs ls hR hS hL
  have h1 := (hR.2.2 i.toNat (by rw [hT]; exact Nat.succ_ne_zero _)).2
  rw [hT] at h1
  simp only [List.map_cons, tv, rf_pos h0]
  refine W.iast hx' hb h1 ((hKK.2 0 _ rfl).1 len (fun j => .int (Int32.ofInt (v i.toNat j)))) (fun q => by cases q) (by show ¬ (_ ∨ (arrV _ _ _).slots.size ≤ _); rw [arrV_size]; exact vin_of hj hl) rfl rfl hd fun H1 e z oq => ?_
  refine kk H1 _ ls (hR.set (by rw [hT]; exact Nat.succ_ne_zero _) z oq (fun _ _ => rfl) (fun a ha => by funext z; simp [up, ha]) (up_i32 hR.2.1 hx32 _ _) ?_) (hS.put z oq (Nat.le_add_right _ _)) hL
  rw [hT, up_row]
  show H1[_]? = some (arrV _ _ _)
  rw [e, arrV_store, ofInt_nat ⟨hj.1, by omega⟩]
  congr 2
  funext q
  by_cases hq : q = j.toNat <;> simp [updV, hq]
/-- a Disk into an array of Disks -/
theorem M_aast (C : CX κ Y d mc ms) {i j x : Int} {len n2 : Nat} {lk lk2 : Nat → Int} (h0 : 0 ≤ i) (hT : T i.toNat = (4, len, lk)) (hj : 0 ≤ j ∧ j < len) (hl : (len : Int) < 2147483648) (hx0 : 0 ≤ x) (hTx : T x.toNat = (5, n2, lk2)) (hx32 : i32 x)
    (hd : decode Y.2.1 pc = .ok (.aastore, 1)) (kk : M κ N T (pc + 1) L st (up v i.toNat j.toNat x) k n Q) : M κ N T pc L (vR x :: vI j :: vR i :: st) v k n Q := by
  obtain ⟨p, l, e, R, s, m, args, below, meth, c', b, δ⟩ := κ
  obtain ⟨hx', hb, hown, hts, hKK, hEX, hlocks, hnm, hret, hml, -⟩ := C
  intro H locs ls hR hS hL
  have h1 := (hR.2.2 i.toNat (by rw [hT]; exact Nat.succ_ne_zero _)).2
  rw [hT] at h1
  have h2 := (hR.2.2 x.toNat (by rw [hTx]; exact Nat.succ_ne_zero _)).2
  rw [hTx] at h2
  obtain ⟨r', hr', cellV, g1, g2, g3, -⟩ := h2
  have hcls := (hKK.1 0 (RX0, TX0, 11) rfl).2
  obtain ⟨kA, comp, k1, k2, k3, -⟩ := (hKK.2 3 _ rfl).2
  have hcomp : comp = δ.1.1 0 := Option.some.inj (k3.symm.trans hcls.1)
  subst hcomp
  obtain ⟨kC, hkC, -⟩ := hcls.2
  simp only [List.map_cons, tv, rf_pos h0, rf_pos hx0]
  refine W.aast hx' hb h1 (fun q h => by cases h) (fun h => by cases h) k1 k2 rfl hkC ⟨ofInt_neg ⟨hj.1, by omega⟩, (show (Int32.ofInt j).toNatClampNeg < (arrV δ.2.2.2.2 len (fun j => rf b (v i.toNat j))).slots.size by rw [arrV_size, ofInt_nat ⟨hj.1, by omega⟩]; omega)⟩ g1 (fun q h => by rw [g3] at h; cases h) (by rw [g2]; exact hkC) (by rw [g2]; exact va_assign hcls) rfl rfl hd fun H1 e z oq => ?_
  refine kk H1 _ ls (hR.set (by rw [hT]; exact Nat.succ_ne_zero _) z oq (fun _ _ => rfl) (fun a ha => by funext z; simp [up, ha]) (up_i32 hR.2.1 hx32 _ _) ?_) (hS.put z oq (Nat.le_add_right _ _)) hL
  rw [hT, up_row]
  show H1[_]? = some (arrV _ _ _)
  rw [e, arrV_store, ofInt_nat ⟨hj.1, by omega⟩]
  congr 2
  funext q
  by_cases hq : q = j.toNat <;> simp [updV, hq, rf_pos hx0]
end ROWS4
