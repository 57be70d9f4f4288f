-- calls
def mcs (st : List MV) : Nat := (st.map fun x => if mc2 x = true then 2 else 1).sum
theorem mcs_tv (b : Nat) (st : List MV) : ((st.map (tv b)).map fun v => v.category).sum = mcs st := by
  unfold mcs
  rw [List.map_map, show (Value.category ∘ tv b) = (fun x => if mc2 x = true then 2 else 1) from funext fun x => tv_cat b x]
/-- what the tables say of a method -/
def YW (Y : MD) (np : Nat) : Prop := Cond.code Y.1 Y.2.1 Y.2.2.1 Y.2.2.2 ∈ GW ∧ Cond.initialized Y.1.cls ∈ GW ∧ (Y.1.cls ≠ "java/lang/invoke/MethodHandle" ∧ Y.1.cls ≠ "java/lang/invoke/VarHandle") ∧ (parseMethodDescriptor Y.1.desc).map (fun d => d.parameters.length) = some np ∧ Y.2.2.1 ≤ 61
def YV (Y : MD) (np : Nat) : Prop := YW Y np ∧ Cond.instanceMethod Y.1 ∈ GW ∧ Cond.selects Y.1.cls Y.1 Y.1 ∈ GW
def YS (Y : MD) (np : Nat) : Prop := YW Y np ∧ Cond.static Y.1 ∈ GW
def YI (Y : MD) (np : Nat) : Prop := YW Y np ∧ Cond.instanceMethod Y.1 ∈ GW ∧ Y.1.name = "<init>" ∧ Y.2.2.2 = none
/-- a class's call of a method by its place idx -/
def LK (own : String) (idx : Nat) (y : MethodName) : Prop := Cond.methodLink own idx y ∈ GW ∨ ∃ host, Cond.methodLinkNest own idx y host ∈ OW
theorem GW_pay {Y : MD} (h : Cond.code Y.1 Y.2.1 Y.2.2.1 Y.2.2.2 ∈ GW) {args : Array Value} {s : State} (hts : ∀ w ∈ GW, w.before args s = true) : ∀ w ∈ wsOf Y, ∀ (a' : Array Value) (U : State), s.WarmedH U.vm → w.before a' U = true := by
  refine pay_in hts fun w hw => ?_
  rcases List.mem_cons.mp hw with e | e
  · rw [e]; exact ⟨h, good_of_word (GW_good _ h)⟩
  · exact ⟨e, good_of_word (GW_good _ e)⟩
section ROWS6
variable {p : Program} {l : Launch} {e : Env} {R : Room} {s : State} {m : MethodId} {args : Array Value} {below : List Frame} {meth : Method} {c : Code} {H : Heap} {locs : List Loc} {b : Nat} {δ : DL}
theorem blindR {as : List MV} {N : Nat} {T : Ty} {v : Ct} : FrameBlind (PcR b δ as N T v) := by
  intro a U g mk h
  obtain ⟨h1, h2, h3, h4⟩ := h
  exact ⟨h1, h2, va_K.moved (u := U) (U := U.calling g mk a) (Vm.Alike.refl U.vm) h3, h4.calling⟩
theorem preR {as : List MV} {N : Nat} {T : Ty} {v : Ct} {av : Array Value} (hav : av = (as.map (tv b)).toArray) (hR : Rep b δ N T v H) (hK : KK δ s) (hE : EX b s s.heap) (hS : va_S (AB b) s.heap H locs) : ∀ U : State, U.heap = H → s.WarmedH U.vm → PcR b δ as N T v av U := by
  intro U hU hW
  refine ⟨hav, by rw [hU]; exact hR, va_K.moved hW.alike hK, ?_⟩
  rw [hU]
  exact hE.to hW hS.2.1
theorem run_go {k n mc2 ms2 : Nat} {pc : Nat} {ls : Array Slot} {st0 rest : List Value} {Post : Option MV → Ct → Prop} {N2 : Nat} {T2 : Ty} {a : Array Value} {Q : State → Prop}
    (hr : va_Run p l e R s m args below meth c H locs k n mc2 ms2 (F0 m pc ls st0) rest (QcR b δ Post N2 T2 a) (AB b)) (hS : va_S (AB b) s.heap H locs)
    (kk : ∀ (r : Option MV) (v2 : Ct) (H1 : Heap) (locs1 : List Loc), Post r v2 → Rep b δ N2 T2 v2 H1 → va_S (AB b) s.heap H1 locs1 → W p l e R s m args below meth c H1 locs1 (k + mc2) (n + ms2) Q (F0 m (pc + 3) ls ((r.map (tv b)).toList ++ rest))) : W p l e R s m args below meth c H locs k n Q (F0 m pc ls st0) := by
  intro T hT X
  obtain ⟨x, st₀, t, T', L, h0, X', hL, e1, e2, ⟨r, v2, hpo, hv, hRp, hz, hk⟩, st⟩ := hr T hT X
  cases hv
  rw [h0] at hz hk
  obtain ⟨t2, a1, b1⟩ := kk r v2 T'.heap (locs ++ L) hpo (by rw [e1]; exact hRp)
    ⟨Nat.le_trans hS.1 (by rw [e1]; exact hz), fun q h1 h2 => by rw [e1, hk q (Nat.lt_of_lt_of_le h1 hS.1) h2]; exact hS.2.1 q h1 h2, fun q hq => by
      rcases List.mem_append.mp hq with h | h
      · exact hS.2.2 q h
      · exact hL q h⟩ T' rfl X'
  exact ⟨t2, st t2 a1, b1⟩
theorem cbR {Y2 : MD} {own : String} {idx np d2 mc2 ms2 d : Nat} (W2 : YW Y2 np) (hts : ∀ w ∈ GW, w.before args s = true) (hdd : d2 + 1 ≤ d) (h1 : d ≤ R.frames) (h2 : 80 * d ≤ R.locals) :
    ((rmd d2 mc2 ms2).cells = mc2 ∧ (rmd d2 mc2 ms2).slots = ms2 ∧ (rmd d2 mc2 ms2).frames + 1 ≤ R.frames ∧ 8 + (Y2.2.2.1 + 11) + (rmd d2 mc2 ms2).locals ≤ R.locals ∧ (∀ w ∈ wsOf Y2, ∀ (a' : Array Value) (U : State), s.WarmedH U.vm → w.before a' U = true) ∧ Cond.code Y2.1 Y2.2.1 Y2.2.2.1 Y2.2.2.2 ∈ wsOf Y2) ∧
    (Cond.code Y2.1 Y2.2.1 Y2.2.2.1 Y2.2.2.2).before args s = true ∧ (Cond.initialized Y2.1.cls).before args s = true ∧ (Y2.1.cls ≠ "java/lang/invoke/MethodHandle" ∧ Y2.1.cls ≠ "java/lang/invoke/VarHandle") ∧ (∀ sig, parseMethodDescriptor Y2.1.desc = some sig → np = sig.parameters.length) := by
  obtain ⟨w1, w2, w3, w4, w5⟩ := W2
  refine ⟨⟨rfl, rfl, ?_, ?_, GW_pay w1 hts, List.mem_cons_self⟩, hts _ w1, hts _ w2, w3, fun sig h => ?_⟩
  · show d2 + 1 ≤ R.frames
    omega
  · show 8 + (Y2.2.2.1 + 11) + 80 * d2 ≤ R.locals
    omega
  · rw [h] at w4
    exact (Option.some.inj w4).symm
end ROWS6
section ROWS7
variable {κ : KX} {Y : MD} {d mc ms N : Nat} {T : Ty} {pc : Nat} {L : List (Option MV)} {st rest : List MV} {v : Ct} {k n : Nat} {Q : State → Prop}
variable {Y2 : MD} {d2 mc2 ms2 np idx N2 : Nat} {as : List MV} {T2 : Ty} {Post : Option MV → Ct → Prop}
theorem M_callV (C : CX κ Y d mc ms) {i : Int} {c : Nat} (hR : RunsP Y2 d2 mc2 ms2 (vR i :: as) N T v N2 T2 Post) (W2 : YV Y2 np) (lk : LK Y.1.cls idx Y2.1) (h0 : 0 ≤ i) (hT : (T i.toNat).1 = c + 5) (hc : ∃ Tt Nn, vwCl[c]? = some (Y2.1.cls, Tt, Nn)) (hl : as.length = np)
    (hd : decode Y.2.1 pc = .ok (.invokevirtual idx, 3)) (hst : st = as.reverse ++ vR i :: rest) (hw : mcs rest ≤ 8) (hdd : d2 + 1 ≤ d) (hk : k + mc2 ≤ mc ∧ n + ms2 ≤ ms)
    (kk : ∀ r v2, Post r v2 → M κ N2 T2 (pc + 3) L (r.toList ++ rest) v2 (k + mc2) (n + ms2) Q) : M κ N T pc L st v k n Q := by
  subst hst
  obtain ⟨p, l, e, R, s, m, args, below, meth, c', b, δ⟩ := κ
  obtain ⟨hx', hb, hown, hts, hKK, hEX, hlocks, hnm, hret, hml, hst, -, hr1, hr2, hr3, hr4⟩ := C
  intro H locs ls hRp hS hL
  obtain ⟨W2, w6, w7⟩ := W2
  obtain ⟨cb1, cb2, cb3, cb4, cb5⟩ := cbR (R := R) (own := Y.1.cls) (idx := idx) (mc2 := mc2) (ms2 := ms2) W2 hts hdd hr1 hr2
  obtain ⟨Tt, Nn, hc⟩ := hc
  have h1 := (hRp.2.2 i.toNat (by rw [hT]; exact Nat.succ_ne_zero _)).2
  have h2 : cellR b δ (c + 5, (T i.toNat).2.1, (T i.toNat).2.2) (v i.toNat) (b + i.toNat) H := by
    rw [← hT]; exact h1
  have hrecv := va_recv hKK (obj_P h2 hc) (ci := c) (q0 := 0) hc rfl
  have hstk : (as.reverse ++ vR i :: rest).map (tv b) = (as.map (tv b)).reverse ++ .ref (b + i.toNat) :: rest.map (tv b) := by
    rw [List.map_append, List.map_reverse, List.map_cons]
    simp only [tv, rf_pos h0]
  have hav : (Value.ref (b + i.toNat) :: as.map (tv b)).toArray = ((vR i :: as).map (tv b)).toArray := by
    rw [List.map_cons]
    simp only [tv, rf_pos h0]
  rw [hstk]
  have hroom := lv_room (m := m) (pc := pc) (ls := ls) (rest := (as.map (tv b)).reverse ++ .ref (b + i.toNat) :: rest.map (tv b)) (st := rest.map (tv b)) (by rw [mcs_tv]; exact hw)
  refine run_go (δ := δ) (a := (Value.ref (b + i.toNat) :: as.map (tv b)).toArray) (rest := rest.map (tv b)) (Post := Post) (N2 := N2) (T2 := T2) (mc2 := mc2) (ms2 := ms2) ?_ hS (fun r v2 H1 locs1 hpo hR1 hS1 => ?_)
  · rcases lk with lk | ⟨host, lk⟩
    · exact va_runV (C := Y2.1.cls) (nL := c'.maxLocals) (Ts := GW) ⟨hx', hb, rfl, hown, hts⟩ (hR l b δ hst) ⟨⟨cb1.1, cb1.2.1, cb1.2.2.1, cb1.2.2.2.1, cb1.2.2.2.2.1, cb1.2.2.2.2.2, cb2, cb3, cb4, cb5, hts _ lk⟩, hts _ w6, hts _ w7⟩ ⟨blindR, hrecv, preR hav hRp hKK hEX hS⟩ rfl (by rw [List.length_map]; exact hl) hL.2.1 rfl hroom hd ⟨by omega, by omega⟩
    · exact va_runVN (C := Y2.1.cls) (nL := c'.maxLocals) (Ts := GW) ⟨hx', hb, rfl, hown, hts⟩ (hR l b δ hst) ⟨⟨cb1, cb2, cb3, cb4, cb5, hEX.ow lk⟩, hts _ w6, hts _ w7⟩ ⟨blindR, hrecv, preR hav hRp hKK hEX hS⟩ rfl (by rw [List.length_map]; exact hl) hL.2.1 rfl hroom hd ⟨by omega, by omega⟩
  · have h9 := kk r v2 hpo H1 locs1 ls hR1 hS1 hL
    cases r with
    | none => exact h9
    | some x => exact h9
theorem M_callS (C : CX κ Y d mc ms) (hR : RunsP Y2 d2 mc2 ms2 as N T v N2 T2 Post) (W2 : YS Y2 np) (lk : LK Y.1.cls idx Y2.1) (hl : as.length = np)
    (hd : decode Y.2.1 pc = .ok (.invokestatic idx, 3)) (hst : st = as.reverse ++ rest) (hw : mcs rest ≤ 8) (hdd : d2 + 1 ≤ d) (hk : k + mc2 ≤ mc ∧ n + ms2 ≤ ms)
    (kk : ∀ r v2, Post r v2 → M κ N2 T2 (pc + 3) L (r.toList ++ rest) v2 (k + mc2) (n + ms2) Q) : M κ N T pc L st v k n Q := by
  subst hst
  obtain ⟨p, l, e, R, s, m, args, below, meth, c', b, δ⟩ := κ
  obtain ⟨hx', hb, hown, hts, hKK, hEX, hlocks, hnm, hret, hml, hst, -, hr1, hr2, hr3, hr4⟩ := C
  intro H locs ls hRp hS hL
  obtain ⟨W2, w6⟩ := W2
  obtain ⟨cb1, cb2, cb3, cb4, cb5⟩ := cbR (R := R) (own := Y.1.cls) (idx := idx) (mc2 := mc2) (ms2 := ms2) W2 hts hdd hr1 hr2
  have hstk : (as.reverse ++ rest).map (tv b) = (as.map (tv b)).reverse ++ rest.map (tv b) := by
    rw [List.map_append, List.map_reverse]
  rw [hstk]
  have hroom := lv_room (m := m) (pc := pc) (ls := ls) (rest := (as.map (tv b)).reverse ++ rest.map (tv b)) (st := rest.map (tv b)) (by rw [mcs_tv]; exact hw)
  refine run_go (δ := δ) (a := (as.map (tv b)).toArray) (rest := rest.map (tv b)) (Post := Post) (N2 := N2) (T2 := T2) (mc2 := mc2) (ms2 := ms2) ?_ hS (fun r v2 H1 locs1 hpo hR1 hS1 => ?_)
  · rcases lk with lk | ⟨host, lk⟩
    · exact va_runS (nL := c'.maxLocals) (Ts := GW) ⟨hx', hb, rfl, hown, hts⟩ (hR l b δ hst) ⟨⟨cb1.1, cb1.2.1, cb1.2.2.1, cb1.2.2.2.1, cb1.2.2.2.2.1, cb1.2.2.2.2.2, cb2, cb3, cb4, cb5, hts _ lk⟩, hts _ w6⟩ ⟨blindR, preR rfl hRp hKK hEX hS⟩ rfl (by rw [List.length_map]; exact hl) hL.2.1 rfl hroom hd ⟨by omega, by omega⟩
    · exact va_runSN (nL := c'.maxLocals) (Ts := GW) ⟨hx', hb, rfl, hown, hts⟩ (hR l b δ hst) ⟨⟨cb1, cb2, cb3, cb4, cb5, hEX.ow lk⟩, hts _ w6, trivial⟩ ⟨blindR, preR rfl hRp hKK hEX hS⟩ rfl (by rw [List.length_map]; exact hl) hL.2.1 rfl hroom hd ⟨by omega, by omega⟩
  · have h9 := kk r v2 hpo H1 locs1 ls hR1 hS1 hL
    cases r with
    | none => exact h9
    | some x => exact h9
theorem M_callI (C : CX κ Y d mc ms) {i : Int} (hR : RunsP Y2 d2 mc2 ms2 (vR i :: as) N T v N2 T2 Post) (W2 : YI Y2 np) (lk : LK Y.1.cls idx Y2.1) (h0 : 0 ≤ i) (hl : as.length = np)
    (hd : decode Y.2.1 pc = .ok (.invokespecial idx, 3)) (hst : st = as.reverse ++ vR i :: rest) (hw : mcs rest ≤ 8) (hdd : d2 + 1 ≤ d) (hk : k + mc2 ≤ mc ∧ n + ms2 ≤ ms)
    (hnone : ∀ r v2, Post r v2 → r = none) (kk : ∀ v2, Post none v2 → M κ N2 T2 (pc + 3) L rest v2 (k + mc2) (n + ms2) Q) : M κ N T pc L st v k n Q := by
  subst hst
  obtain ⟨p, l, e, R, s, m, args, below, meth, c', b, δ⟩ := κ
  obtain ⟨hx', hb, hown, hts, hKK, hEX, hlocks, hnm, hret, hml, hst, -, hr1, hr2, hr3, hr4⟩ := C
  intro H locs ls hRp hS hL
  obtain ⟨W2, w6, w7, w8⟩ := W2
  obtain ⟨cb1, cb2, cb3, cb4, cb5⟩ := cbR (R := R) (own := Y.1.cls) (idx := idx) (mc2 := mc2) (ms2 := ms2) W2 hts hdd hr1 hr2
  have hstk : (as.reverse ++ vR i :: rest).map (tv b) = (as.map (tv b)).reverse ++ .ref (b + i.toNat) :: rest.map (tv b) := by
    rw [List.map_append, List.map_reverse, List.map_cons]
    simp only [tv, rf_pos h0]
  have hav : (Value.ref (b + i.toNat) :: as.map (tv b)).toArray = ((vR i :: as).map (tv b)).toArray := by
    rw [List.map_cons]
    simp only [tv, rf_pos h0]
  rw [hstk]
  have hroom := lv_room (m := m) (pc := pc) (ls := ls) (rest := (as.map (tv b)).reverse ++ .ref (b + i.toNat) :: rest.map (tv b)) (st := rest.map (tv b)) (by rw [mcs_tv]; exact hw)
  refine run_go (δ := δ) (a := (Value.ref (b + i.toNat) :: as.map (tv b)).toArray) (rest := rest.map (tv b)) (Post := Post) (N2 := N2) (T2 := T2) (mc2 := mc2) (ms2 := ms2) ?_ hS (fun r v2 H1 locs1 hpo hR1 hS1 => by have hn := hnone r v2 hpo; subst hn; exact kk v2 hpo H1 locs1 ls hR1 hS1 hL)
  rw [w8] at cb1 cb2
  rcases lk with lk | ⟨host, lk⟩
  · exact va_runI (nL := c'.maxLocals) (Ts := GW) ⟨hx', hb, rfl, hown, hts⟩ (hR l b δ hst) ⟨⟨cb1.1, cb1.2.1, cb1.2.2.1, cb1.2.2.2.1, cb1.2.2.2.2.1, cb1.2.2.2.2.2, cb2, cb3, cb4, cb5, hts _ lk⟩, w7, hts _ w6⟩ ⟨blindR, preR hav hRp hKK hEX hS⟩ rfl (by rw [List.length_map]; exact hl) hL.2.1 rfl hroom hd ⟨by omega, by omega⟩
  · exact va_runIN (nL := c'.maxLocals) (Ts := GW) ⟨hx', hb, rfl, hown, hts⟩ (hR l b δ hst) ⟨⟨cb1, cb2, cb3, cb4, cb5, hEX.ow lk⟩, w7, hts _ w6⟩ ⟨blindR, preR hav hRp hKK hEX hS⟩ rfl (by rw [List.length_map]; exact hl) hL.2.1 rfl hroom hd ⟨by omega, by omega⟩
end ROWS7
