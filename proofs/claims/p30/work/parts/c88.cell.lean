/-! the script, handed on to a method of the law's own -/
def AX (b q len : Nat) (xs : Nat → Int32) (U : State) : Prop := q < U.heap.size ∧ q < b ∧ va_X q len xs U U.heap
def AXk (κ : KX) (q len : Nat) (xs : Nat → Int32) : Prop := match κ with
  | (_, _, _, _, s, _, _, _, _, _, b, _) => AX b q len xs s
theorem AX.arg {κ : KX} {q len : Nat} {xs : Nat → Int32} (h : AXk κ q len xs) : ARG κ q len (fun j => (xs j).toInt) := by
  obtain ⟨p, l, e, R, s, m, args, below, meth, c, b, δ⟩ := κ
  obtain ⟨h1, h2, scr, x1, x2, x3, x4, x5⟩ := h
  exact ⟨h1, h2, ⟨scr, x1, x2, x3, x4, fun j hj => by rw [x5 j hj, Int32.ofInt_toInt]⟩, fun j => ⟨Int32.le_toInt _, Int32.toInt_lt _⟩⟩
def RunsA (Y : MD) (d : Nat) (as : List MV) (N : Nat) (T : Ty) (v : Ct) (q len : Nat) (xs : Nat → Int32) (Post : Option MV → Ct → Prop) : Prop :=
  ∀ (l : Launch) (b : Nat) (δ : DL), l.stackTraces = false → Met l Y.1 (wsOf Y) (rmd d 0 0) (fun a U => PcR b δ as N T v a U ∧ AX b q len xs U) (QcR b δ Post N T) 0 0 (AB b)
theorem RunsA.of {Y : MD} {d : Nat} {as : List MV} {N : Nat} {T : Ty} {v : Ct} {q len : Nat} {xs : Nat → Int32} {Post : Option MV → Ct → Prop} (hy : plainName Y.1.cls = true) (hlen : (entL as).length ≤ Y.2.2.1)
    (body : ∀ κ : KX, CX κ Y d 0 0 → AXk κ q len xs → M κ N T 0 (ent as Y.2.2.1) [] v 0 0 (QP κ N T Post 0 0)) : RunsA Y d as N T v q len xs Post := by
  intro l b δ hst
  refine Met.ofW (cc := Y.2.1) (maxL := Y.2.2.1) (ret := Y.2.2.2) hy rfl ?_
  intro p e s m args below meth c s₁ B hml hv
  obtain ⟨⟨rfl, hR, hK, hE⟩, hA⟩ := hv
  have hts : ∀ w ∈ GW, w.before ((as.map (tv b)).toArray) s = true := fun w h => atoms_spec (ws := wsOf Y) B.pre w (List.mem_cons_of_mem _ h)
  have hbs : b ≤ s.heap.size := by rw [hR.1]; omega
  have C : CX (p, l, e, (headSpec (wsOf Y) (rmd d 0 0)).room, s, m, (as.map (tv b)).toArray, below, meth, c, b, δ) Y d 0 0 :=
    ⟨B.exec, B.bytes, findClass_of_methodNamed B.named, hts, hK, hE, B.notSynchronized, (name_of_methodNamed B.named B.method).1, B.returns, hml, hst, hbs, Nat.le_refl _, Nat.le_refl _, Nat.le_refl _, Nat.le_refl _⟩
  rw [lg_entry_eq]
  refine body _ C hA s.heap [] _ hR va_S.rf ?_
  rw [hml]
  exact LH.entry hlen
section ROWSA
variable {κ : KX} {Y : MD} {d mc ms N : Nat} {T : Ty} {pc : Nat} {L : List (Option MV)} {st rest : List MV} {v : Ct} {k n : Nat} {Q : State → Prop}
variable {Y2 : MD} {d2 np idx : Nat} {as : List MV} {Post : Option MV → Ct → Prop}
theorem M_callA (C : CX κ Y d mc ms) {q len : Nat} {xs : Nat → Int32} (hA : AXk κ q len xs) (hR : RunsA Y2 d2 as N T v q len xs Post) (W2 : YS Y2 np) (lk : LK Y.1.cls idx Y2.1) (hl : as.length = np)
    (hd : decode Y.2.1 pc = .ok (.invokestatic idx, 3)) (hst : st = as.reverse ++ rest) (hw : mcs rest ≤ 8) (hdd : d2 + 1 ≤ d) (hk : k ≤ mc ∧ n ≤ ms)
    (kk : ∀ r v2, Post r v2 → M κ N T (pc + 3) L (r.toList ++ rest) v2 k n Q) : M κ N T pc L st v k n Q := by
  subst hst
  obtain ⟨p, l, e, R, s, m, args, below, meth, c', b, δ⟩ := κ
  obtain ⟨hx', hb, hown, hts, hKK, hEX, hlocks, hnm, hret, hml, hst, -, hr1, hr2, hr3, hr4⟩ := C
  obtain ⟨a1, a2, a3⟩ := hA
  intro H locs ls hRp hS hL
  obtain ⟨W2, w6⟩ := W2
  obtain ⟨cb1, cb2, cb3, cb4, cb5⟩ := cbR (R := R) (own := Y.1.cls) (idx := idx) (mc2 := 0) (ms2 := 0) W2 hts hdd hr1 hr2
  have hstk : (as.reverse ++ rest).map (tv b) = (as.map (tv b)).reverse ++ rest.map (tv b) := by
    rw [List.map_append, List.map_reverse]
  rw [hstk]
  have hroom := lv_room (m := m) (pc := pc) (ls := ls) (rest := (as.map (tv b)).reverse ++ rest.map (tv b)) (st := rest.map (tv b)) (by rw [mcs_tv]; exact hw)
  have hbl : FrameBlind (fun a U => PcR b δ as N T v a U ∧ AX b q len xs U) := by
    intro a U g mk h
    exact ⟨blindR a U g mk h.1, h.2.1, h.2.2.1, va_X.moved (u := U) (U := U.calling g mk a) (Vm.Alike.refl U.vm) h.2.2.2⟩
  have hpre : ∀ U : State, U.heap = H → s.WarmedH U.vm → PcR b δ as N T v (as.map (tv b)).toArray U ∧ AX b q len xs U := by
    intro U hU hW
    refine ⟨preR rfl hRp hKK hEX hS U hU hW, ?_, a2, ?_⟩
    · rw [hU]
      exact Nat.lt_of_lt_of_le a1 hS.1
    · rw [hU]
      exact va_X.moved hW.alike (a3.kept (hS.2.1 q a1 (fun z => absurd a2 (Nat.not_lt_of_le z))))
  refine run_go (δ := δ) (a := (as.map (tv b)).toArray) (rest := rest.map (tv b)) (Post := Post) (N2 := N) (T2 := T) (mc2 := 0) (ms2 := 0) ?_ hS (fun r v2 H1 locs1 hpo hR1 hS1 => ?_)
  · rcases lk with lk | ⟨host, lk⟩
    · exact va_runS (nL := c'.maxLocals) (Ts := GW) ⟨hx', hb, rfl, hown, hts⟩ (hR l b δ hst) ⟨⟨cb1.1, cb1.2.1, cb1.2.2.1, cb1.2.2.2.1, cb1.2.2.2.2.1, cb1.2.2.2.2.2, cb2, cb3, cb4, cb5, hts _ lk⟩, hts _ w6⟩ ⟨hbl, hpre⟩ rfl (by rw [List.length_map]; exact hl) hL.2.1 rfl hroom hd ⟨by omega, by omega⟩
    · exact va_runSN (nL := c'.maxLocals) (Ts := GW) ⟨hx', hb, rfl, hown, hts⟩ (hR l b δ hst) ⟨⟨cb1, cb2, cb3, cb4, cb5, hEX.ow lk⟩, hts _ w6, trivial⟩ ⟨hbl, hpre⟩ rfl (by rw [List.length_map]; exact hl) hL.2.1 rfl hroom hd ⟨by omega, by omega⟩
  · have h9 := kk r v2 hpo H1 locs1 ls hR1 hS1 hL
    cases r with
    | none => exact h9
    | some x => exact h9
end ROWSA
theorem c_L_cell {N : Nat} {T : Ty} {v : Ct} {q len k : Nat} {xs : Nat → Int32} (hl : len ≤ 260) (hk : k ≤ 88) : RunsA mL_cell 0 [vR (-(q : Int) - 2), vI ((k : Nat) : Int)] N T v q len xs (fun r1 v1 => ∃ z, r1 = some (vI z) ∧ i32 z ∧ v1 = v) := by
  refine RunsA.of (by decide) (Nat.le_of_ble_eq_true rfl) fun κ C hX => ?_
  have hA := AX.arg hX
  refine M_iload_n (pc := 0) C dL_cell_0 rfl ?_
  refine M_aloadA_n (pc := 1) C dL_cell_1 rfl ?_
  refine M_alenA (pc := 2) C hA dL_cell_2 ?_
  refine M_icmp_ge (pc := 3) C (tgt := 12) (by omega) (by omega) dL_cell_3 (by decide) (fun h_3 => ?_) (fun h_3 => ?_)
  · refine M_ldc (pc := 12) C lc_L_7 (z := 22610029) rfl dL_cell_12 ?_
    refine M_iload_n (pc := 14) C dL_cell_14 rfl ?_
    refine M_imul (pc := 15) C dL_cell_15 ?_
    refine M_sipush (pc := 16) C (by decide) dL_cell_16 ?_
    refine M_iadd (pc := 19) C dL_cell_19 ?_
    exact M_iretP (pc := 20) C rfl dL_cell_20 ⟨_, rfl, by omega, rfl⟩
  · refine M_aloadA_n (pc := 6) C dL_cell_6 rfl ?_
    refine M_iload_n (pc := 7) C dL_cell_7 rfl ?_
    refine M_ialdA (pc := 8) C (g := k) hA rfl (by omega) (by omega) dL_cell_8 (fun r_8 => ?_)
    refine M_goto (pc := 9) C (tgt := 20) dL_cell_9 (by decide) ?_
    exact M_iretP (pc := 20) C rfl dL_cell_20 ⟨_, rfl, r_8, rfl⟩
