/-! methods with handlers: their contract; a throw caught -/
def QcE (b : Nat) (δ : DL) (Post : Option MV → Nat → Ty → Ct → Prop) : Array Value → State → Outcome → State → Prop := fun _ st o t => ∃ (r : Option MV) (N2 : Nat) (T2 : Ty) (v : Ct), Post r N2 T2 v ∧ o = .returned (r.map (tv b)) ∧ Rep b δ N2 T2 v t.heap ∧ va_F (AB b) st t
def wsH (Y : MD) (hh : List (Nat × Nat × Nat × Nat)) : List Cond := Cond.codeWith Y.1 Y.2.1 Y.2.2.1 Y.2.2.2 hh :: GW
def RunsE (Y : MD) (hh : List (Nat × Nat × Nat × Nat)) (d mc ms : Nat) (as : List MV) (N : Nat) (T : Ty) (v : Ct) (Post : Option MV → Nat → Ty → Ct → Prop) : Prop :=
  ∀ (l : Launch) (b : Nat) (δ : DL), l.stackTraces = false → vx_Met l Y.1 (wsH Y hh) (rmd d mc ms) (PcR b δ as N T v) (QcE b δ Post) (fun _ _ _ => False) mc ms (AB b)
def QE (κ : KX) (Post : Option MV → Nat → Ty → Ct → Prop) (mc ms : Nat) : State → Prop := match κ with
  | (_, _, _, _, s, _, args, below, _, _, b, δ) => vx_MQ below (QcE b δ Post) (fun _ _ _ => False) args s mc ms (AB b)
/-- the handlers -/
def HT (κ : KX) (hh : List (Nat × Nat × Nat × Nat)) : Prop := match κ with
  | (_, _, _, _, _, _, _, _, _, c, _, _) => c.exceptionTable.toList = tableOf hh
theorem RunsE.of {Y : MD} {hh : List (Nat × Nat × Nat × Nat)} {d mc ms : Nat} {as : List MV} {N : Nat} {T : Ty} {v : Ct} {Post : Option MV → Nat → Ty → Ct → Prop} (hy : plainName Y.1.cls = true) (hlen : (entL as).length ≤ Y.2.2.1)
    (body : ∀ κ : KX, CX κ Y d mc ms → HT κ hh → M κ N T 0 (ent as Y.2.2.1) [] v 0 0 (QE κ Post mc ms)) : RunsE Y hh d mc ms as N T v Post := by
  intro l b δ hst
  refine vx_ofWH (cc := Y.2.1) (maxL := Y.2.2.1) (ret := Y.2.2.2) (hh := hh) hy rfl ?_
  intro p e s m args below meth c s₁ B hml hv
  obtain ⟨rfl, hR, hK, hE⟩ := hv
  have hts : ∀ w ∈ GW, w.before ((as.map (tv b)).toArray) s = true := fun w h => atoms_spec (ws := wsH Y hh) B.pre w (List.mem_cons_of_mem _ h)
  have hbs : b ≤ s.heap.size := by rw [hR.1]; omega
  have C : CX (p, l, e, (headSpec (wsH Y hh) (rmd d mc ms)).room, s, m, (as.map (tv b)).toArray, below, meth, c, b, δ) Y d mc ms :=
    ⟨B.exec, B.bytes, findClass_of_methodNamed B.named, hts, hK, hE, B.notSynchronized, (name_of_methodNamed B.named B.method).1, B.returns, hml, hst, hbs, Nat.le_refl _, Nat.le_refl _, Nat.le_refl _, Nat.le_refl _⟩
  have hT : c.exceptionTable.toList = tableOf hh := vx_table (x := Y.1) B (atoms_spec (ws := wsH Y hh) B.pre _ List.mem_cons_self)
  rw [lg_entry_eq]
  refine body _ C hT s.heap [] _ hR va_S.rf ?_
  rw [hml]
  exact LH.entry hlen
section ROWSE
variable {κ : KX} {Y : MD} {d mc ms N : Nat} {T : Ty} {pc : Nat} {L : List (Option MV)} {st rest : List MV} {v : Ct} {k n : Nat} {Q : State → Prop}
theorem M_toE {P : Option MV → Ct → Prop} {Post : Option MV → Nat → Ty → Ct → Prop} {N2 : Nat} {T2 : Ty} (h : M κ N T pc L st v k n (QP κ N2 T2 P mc ms)) (hP : ∀ r v1, P r v1 → Post r N2 T2 v1) : M κ N T pc L st v k n (QE κ Post mc ms) := by
  obtain ⟨p, l, e, R, s, m, args, below, meth, c, b, δ⟩ := κ
  intro H locs ls hR hS hL
  refine vx_ret ?_
  intro T0 hT X
  obtain ⟨t, a1, o, b1, b2, ⟨r, v1, q1, q2, q3, q4⟩, b4⟩ := h H locs ls hR hS hL T0 hT X
  exact ⟨t, a1, o, b1, b2, ⟨r, N2, T2, v1, hP r v1 q1, q2, q3, q4⟩, b4⟩
variable {Y2 : MD} {d2 mc2 ms2 np idx : Nat} {as : List MV} {E : String} {PX : Ct → Prop}
theorem M_cat (C : CX κ Y d mc ms) {hh : List (Nat × Nat × Nat × Nat)} (hh1 : HT κ hh) {pre suf : List ExceptionTableEntry} {x : ExceptionTableEntry} (hsp : tableOf hh = pre ++ x :: suf)
    (hpass : ∀ z ∈ pre, z.catchType ≠ 0 ∧ ∃ nm : String, Cond.classLink Y.1.cls z.catchType nm ∈ GW ∧ (E, nm) ∈ ncs) (hx : covers x pc = true) (h0 : x.catchType ≠ 0) (hlk : Cond.classLink Y.1.cls x.catchType E ∈ GW) (hcast : Cond.castable E E ∈ OW)
    {i : Int} {a c : Nat} (hR : Thr Y2 d2 mc2 ms2 (vR i :: as) N T v E PX) (W2 : YV Y2 np) (lk : Cond.methodLink Y.1.cls idx Y2.1 ∈ GW) (hi : i = (a : Int)) (hT : (T a).1 = c + 5) (hc : ∃ Tt Nn, vwCl[c]? = some (Y2.1.cls, Tt, Nn)) (hl : as.length = np)
    (hd : decode Y.2.1 pc = .ok (.invokevirtual idx, 3)) (hst : st = as.reverse ++ vR i :: rest) (hw : mcs rest ≤ 8) (hdd : d2 + 1 ≤ d) (hk : k + mc2 ≤ mc ∧ n + ms2 ≤ ms) {pc2 : Nat}
    (has : (∃ j : Fin 4, decode Y.2.1 x.handlerPc = .ok (.astore_n j, 1) ∧ (j : Nat) < Y.2.2.1 ∧ pc2 = x.handlerPc + 1) ∨ (∃ j : Nat, decode Y.2.1 x.handlerPc = .ok (.astore j, 2) ∧ j < Y.2.2.1 ∧ pc2 = x.handlerPc + 2))
    (kk : ∀ (N2 : Nat) (v1 : Ct), N ≤ N2 → PX v1 → M κ N2 T pc2 (List.replicate Y.2.2.1 none) [] v1 (k + mc2) (n + ms2) Q) : M κ N T pc L st v k n Q := by
  subst hst
  have h0i : 0 ≤ i := by omega
  have hT : (T i.toNat).1 = c + 5 := by rw [hi]; exact hT
  obtain ⟨p, l, e, R, s, m, args, below, meth, c', b, δ⟩ := κ
  obtain ⟨hx', hb, hown, hts, hKK, hEX, hlocks, hnm, hret, hml, hst, hbs, hr1, hr2, hr3, hr4⟩ := C
  intro H locs ls hRp hS hL
  obtain ⟨W2, w6, w7⟩ := W2
  obtain ⟨cb1, cb2, cb3, cb4, cb5⟩ := cbR (R := R) (own := Y.1.cls) (idx := idx) (mc2 := mc2) (ms2 := ms2) W2 hts hdd hr1 hr2
  obtain ⟨Tt, Nn, hc⟩ := hc
  have h1 := (hRp.2.2 i.toNat (by rw [hT]; exact Nat.succ_ne_zero _)).2
  have h2 : cellR b δ (c + 5, (T i.toNat).2.1, (T i.toNat).2.2) (v i.toNat) (b + i.toNat) H := by
    rw [← hT]; exact h1
  have hrecv := va_recv hKK (obj_P h2 hc) (ci := c) (q0 := 0) hc rfl
  have hstk : (as.reverse ++ vR i :: rest).map (tv b) = (as.map (tv b)).reverse ++ .ref (b + i.toNat) :: rest.map (tv b) := by
    rw [List.map_append, List.map_reverse, List.map_cons]
    simp only [tv, rf_pos h0i]
  have hav : (Value.ref (b + i.toNat) :: as.map (tv b)).toArray = ((vR i :: as).map (tv b)).toArray := by
    rw [List.map_cons]
    simp only [tv, rf_pos h0i]
  rw [hstk]
  have hroom := lv_room (m := m) (pc := pc) (ls := ls) (rest := (as.map (tv b)).reverse ++ .ref (b + i.toNat) :: rest.map (tv b)) (st := rest.map (tv b)) (by rw [mcs_tv]; exact hw)
  refine run_thr (δ := δ) (N := N) (T := T) (E := E) (PX := PX) (a := (Value.ref (b + i.toNat) :: as.map (tv b)).toArray) (rest0 := rest.map (tv b)) (mc2 := mc2) (ms2 := ms2) ?_ hS (fun N2 v1 H1 locs1 ce q hN2 hP1 hR1 hS1 hce hcv hcl => ?_)
  · exact vx_runV (C := Y2.1.cls) (nL := c'.maxLocals) (Ts := GW) ⟨hx', hb, rfl, hown, hts⟩ (hR l b δ hst) ⟨⟨cb1.1, cb1.2.1, cb1.2.2.1, cb1.2.2.2.1, cb1.2.2.2.2.1, cb1.2.2.2.2.2, cb2, cb3, cb4, cb5, hts _ lk⟩, hts _ w6, hts _ w7⟩ ⟨blindR, hrecv, preR hav hRp hKK hEX hS⟩ rfl (by rw [List.length_map]; exact hl) hL.2.1 rfl hroom hd ⟨by omega, by omega⟩
  · refine vx_catch hown pre x suf (show c'.exceptionTable.toList = pre ++ x :: suf from (show c'.exceptionTable.toList = tableOf hh from hh1).trans hsp) (fun z hz => ?_) hx h0 (hts _ hlk) (hEX.ow hcast) hce hcv hcl ?_
    · obtain ⟨q1, nm, q2, q3⟩ := hpass z hz
      exact Or.inr ⟨q1, nm, hts _ q2, hEX.2.2.2.2.1 _ q3⟩
    · have hfin : ∀ (ls' : Array Slot) (lv : List (Nat × Value)), lv_has ls' c'.maxLocals lv → LH b ls' c'.maxLocals (List.replicate Y.2.2.1 none) := fun ls' lv h' => LH.of (by rw [List.length_replicate, hml]) h' (fun j y hy => by
        have := List.mem_of_getElem? hy
        rw [List.mem_replicate] at this
        exact absurd this.2 (by intro h9; cases h9))
      have hkk := kk N2 v1 hN2 hP1 H1 locs1
      rcases has with ⟨j, e1, e2, rfl⟩ | ⟨j, e1, e2, rfl⟩
      · exact lv_astore_n hx' hb e1 rfl hL.2 (by rw [hml]; exact e2) rfl (fun ls' h' => hkk ls' hR1 hS1 (hfin ls' _ h'))
      · exact lv_astore hx' hb e1 hL.2 (by rw [hml]; exact e2) rfl (fun ls' h' => hkk ls' hR1 hS1 (hfin ls' _ h'))
end ROWSE
