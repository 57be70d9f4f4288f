/-! methods that throw: their contract, the throw, a thrower's call -/
def XR (b : Nat) (δ : DL) (E : String) (N : Nat) (T : Ty) (PX : Ct → Prop) : String → State → State → Prop := fun E2 st t => E2 = E ∧ ∃ (N2 : Nat) (v1 : Ct), N ≤ N2 ∧ PX v1 ∧ Rep b δ N2 T v1 t.heap ∧ va_F (AB b) st t
def Thr (Y : MD) (d mc ms : Nat) (as : List MV) (N : Nat) (T : Ty) (v : Ct) (E : String) (PX : Ct → Prop) : Prop :=
  ∀ (l : Launch) (b : Nat) (δ : DL), l.stackTraces = false → vx_Met l Y.1 (wsOf Y) (rmd d mc ms) (PcR b δ as N T v) (fun _ _ _ _ => False) (XR b δ E N T PX) mc ms (AB b)
def QX (κ : KX) (E : String) (N : Nat) (T : Ty) (PX : Ct → Prop) (mc ms : Nat) : State → Prop := match κ with
  | (_, _, _, _, s, _, args, below, _, _, b, δ) => vx_MQ below (fun _ _ _ _ => False) (XR b δ E N T PX) args s mc ms (AB b)
/-- no handlers -/
def NH (κ : KX) : Prop := match κ with
  | (_, _, _, _, _, _, _, _, _, c, _, _) => ∀ x ∈ c.exceptionTable.toList, False
theorem Thr.of {Y : MD} {d mc ms : Nat} {as : List MV} {N : Nat} {T : Ty} {v : Ct} {E : String} {PX : Ct → Prop} (hy : plainName Y.1.cls = true) (hlen : (entL as).length ≤ Y.2.2.1)
    (body : ∀ κ : KX, CX κ Y d mc ms → NH κ → M κ N T 0 (ent as Y.2.2.1) [] v 0 0 (QX κ E N T PX mc ms)) : Thr Y d mc ms as N T v E PX := by
  intro l b δ hst
  refine vx_ofW (cc := Y.2.1) (maxL := Y.2.2.1) (ret := Y.2.2.2) hy rfl ?_
  intro p e s m args below meth c s₁ B hml hh hv
  obtain ⟨rfl, hR, hK, hE⟩ := hv
  have hts : ∀ w ∈ GW, w.before ((as.map (tv b)).toArray) s = true := fun w h => atoms_spec (ws := wsOf Y) B.pre w (List.mem_cons_of_mem _ h)
  have hbs : b ≤ s.heap.size := by rw [hR.1]; omega
  have C : CX (p, l, e, (headSpec (wsOf Y) (rmd d mc ms)).room, s, m, (as.map (tv b)).toArray, below, meth, c, b, δ) Y d mc ms :=
    ⟨B.exec, B.bytes, findClass_of_methodNamed B.named, hts, hK, hE, B.notSynchronized, (name_of_methodNamed B.named B.method).1, B.returns, hml, hst, hbs, Nat.le_refl _, Nat.le_refl _, Nat.le_refl _, Nat.le_refl _⟩
  rw [lg_entry_eq]
  refine body _ C hh s.heap [] _ hR va_S.rf ?_
  rw [hml]
  exact LH.entry hlen
/-- the world after cells were added -/
theorem Rep.more {b : Nat} {δ : DL} {N : Nat} {T : Ty} {v : Ct} {H H1 : Heap} (h : Rep b δ N T v H) (h1 : H.size ≤ H1.size) (h2 : ∀ q : Nat, q < H.size → H1[q]? = H[q]?) : N ≤ H1.size - b ∧ Rep b δ (H1.size - b) T v H1 := by
  obtain ⟨e1, e2, e3⟩ := h
  refine ⟨by omega, by omega, e2, fun i hi => ?_⟩
  obtain ⟨k1, k2⟩ := e3 i hi
  exact ⟨by omega, k2.kept (h2 _ (by omega))⟩
section ROWS9
variable {κ : KX} {Y : MD} {d mc ms N : Nat} {T : Ty} {pc : Nat} {L : List (Option MV)} {st rest : List MV} {v : Ct} {k n : Nat}
def nmsX : List String := ["java/lang/RuntimeException", "java/lang/Exception"]
/-- the words of a throw of the class E in the class own, the place of its maker being ic -/
def TW (own : String) (ik ic : Nat) (E : String) : Prop := Bundle.fit E = true ∧ Cond.classLink own ik E ∈ GW ∧ Cond.initialized E ∈ GW ∧ (∀ w ∈ vx_atS own ic E nmsX, w ∈ GW ∨ w ∈ OW) ∧ ∀ w ∈ Cond.classLink own ik E :: Cond.initialized E :: vx_atS own ic E nmsX, vx_ot w = true
theorem nmsX_fit : ∀ n ∈ nmsX, Bundle.fit n = true := by decide +kernel
theorem M_thrS (C : CX κ Y d mc ms) (hn : NH κ) {E text : String} {ik is ic N0 : Nat} {PX : Ct → Prop} (W : TW Y.1.cls ik ic E) (hY : Y.1.cls = RX7) (hs : (is, text) ∈ strs)
    (d0 : decode Y.2.1 pc = .ok (.new ik, 3)) (d3 : decode Y.2.1 (pc + 3) = .ok (.dup, 1)) (d4 : decode Y.2.1 (pc + 4) = .ok (.ldc is, 2)) (d6 : decode Y.2.1 (pc + 6) = .ok (.invokespecial ic, 3)) (d9 : decode Y.2.1 (pc + 9) = .ok (.athrow, 1))
    (hd : 6 ≤ d) (hst : mcs st ≤ 8) (hk : k + 1 ≤ mc ∧ n + 6 ≤ ms) (hN : N0 ≤ N) (hP : PX v) : M κ N T pc L st v k n (QX κ E N0 T PX mc ms) := by
  obtain ⟨p, l, e, R, s, m, args, below, meth, c, b, δ⟩ := κ
  obtain ⟨hx, hb, hown, hts, hKK, hEX, hlocks, hnm, hret, hml, hstt, hbs, hr1, hr2, hr3, hr4⟩ := C
  intro H locs ls hR hS hL
  obtain ⟨w1, w2, w3, w4, w5⟩ := W
  obtain ⟨sa, hsa⟩ := hEX.2.2.1 _ hs
  refine vx_throwS hx hb hstt (own := Y.1.cls) (names := nmsX) (A := AB b) (sa := sa) (text := text) hown w1 nmsX_fit (hts _ w2) (hts _ w3) (by rw [hY]; exact hsa)
    (fun w hw => (w4 w hw).elim (fun q => hts _ q) (fun q => hEX.ow q)) w5 hEX.1 hEX.2.1 hS hL.2.1 d0 d3 d4 d6 d9 (fun x hx => (hn x hx).elim) (show 2 + 3 < R.frames by omega) ?_ (by omega) (by omega) hlocks ?_ hS.2.2 hk.1 hk.2
  · rw [mcs_tv]
    show mcs st + (13 * (2 + 1) + 43) ≤ R.locals
    omega
  · intro t _ h1 h2
    obtain ⟨k1, k2⟩ := hR.more h1 h2
    exact ⟨rfl, _, v, Nat.le_trans hN k1, hP, k2, Nat.le_trans hS.1 h1, fun q q1 q2 => (h2 q (Nat.lt_of_lt_of_le q1 hS.1)).trans (hS.2.1 q q1 q2)⟩
theorem M_thrW (C : CX κ Y d mc ms) (hn : NH κ) {E text : String} {ik is ic N0 : Nat} {PX : Ct → Prop} (W : TW Y.1.cls ik ic E) (hY : Y.1.cls = RX7) (hs : (is, text) ∈ strs)
    (d0 : decode Y.2.1 pc = .ok (.new ik, 3)) (d3 : decode Y.2.1 (pc + 3) = .ok (.dup, 1)) (d4 : decode Y.2.1 (pc + 4) = .ok (.ldc_w is, 3)) (d7 : decode Y.2.1 (pc + 7) = .ok (.invokespecial ic, 3)) (d10 : decode Y.2.1 (pc + 10) = .ok (.athrow, 1))
    (hd : 6 ≤ d) (hst : mcs st ≤ 8) (hk : k + 1 ≤ mc ∧ n + 6 ≤ ms) (hN : N0 ≤ N) (hP : PX v) : M κ N T pc L st v k n (QX κ E N0 T PX mc ms) := by
  obtain ⟨p, l, e, R, s, m, args, below, meth, c, b, δ⟩ := κ
  obtain ⟨hx, hb, hown, hts, hKK, hEX, hlocks, hnm, hret, hml, hstt, hbs, hr1, hr2, hr3, hr4⟩ := C
  intro H locs ls hR hS hL
  obtain ⟨w1, w2, w3, w4, w5⟩ := W
  obtain ⟨sa, hsa⟩ := hEX.2.2.1 _ hs
  refine vx_throwSW hx hb hstt (own := Y.1.cls) (names := nmsX) (A := AB b) (sa := sa) (text := text) hown w1 nmsX_fit (hts _ w2) (hts _ w3) (by rw [hY]; exact hsa)
    (fun w hw => (w4 w hw).elim (fun q => hts _ q) (fun q => hEX.ow q)) w5 hEX.1 hEX.2.1 hS hL.2.1 d0 d3 d4 d7 d10 (fun x hx => (hn x hx).elim) (show 2 + 3 < R.frames by omega) ?_ (by omega) (by omega) hlocks ?_ hS.2.2 hk.1 hk.2
  · rw [mcs_tv]
    show mcs st + (13 * (2 + 1) + 43) ≤ R.locals
    omega
  · intro t _ h1 h2
    obtain ⟨k1, k2⟩ := hR.more h1 h2
    exact ⟨rfl, _, v, Nat.le_trans hN k1, hP, k2, Nat.le_trans hS.1 h1, fun q q1 q2 => (h2 q (Nat.lt_of_lt_of_le q1 hS.1)).trans (hS.2.1 q q1 q2)⟩
variable {Y2 : MD} {d2 mc2 ms2 np idx N0 : Nat} {as : List MV} {E : String} {PX PX2 : Ct → Prop}
/-- what a thrower leaves behind, told to its caller -/
theorem run_thr {p : Program} {l : Launch} {e : Env} {R : Room} {s : State} {m : MethodId} {args : Array Value} {below : List Frame} {meth : Method} {c : Code} {H : Heap} {locs : List Loc} {b : Nat} {δ : DL} {ls : Array Slot} {st0 rest0 : List Value} {a : Array Value} {Q : State → Prop}
    (hr : vx_Run p l e R s m args below meth c H locs k n mc2 ms2 (F0 m pc ls st0) rest0 ((fun _ _ _ _ => False : Array Value → State → Outcome → State → Prop) a) (XR b δ E N T PX) (AB b)) (hS : va_S (AB b) s.heap H locs)
    (kk : ∀ (N2 : Nat) (v1 : Ct) (H1 : Heap) (locs1 : List Loc) (ce : Cell) (q : Addr), N ≤ N2 → PX v1 → Rep b δ N2 T v1 H1 → va_S (AB b) s.heap H1 locs1 → H1[q]? = some ce → ce.vm = .none → s.vm.findClass E = some ce.cls → vx_W p l e R s m args below meth c H1 locs1 (k + mc2) (n + ms2) Q (F0 m pc ls rest0) q) : W p l e R s m args below meth c H locs k n Q (F0 m pc ls st0) := by
  intro T0 hT X
  rcases hr T0 hT X with ⟨v9, st₀, t, T', L9, h0, X', hL, e1, e2, hf, st⟩ | ⟨q, st₀, t, T', L9, E9, ce, h0, X', hL, e1, e2, ⟨rfl, N2, v1, hN2, hP, hRp, hz, hk⟩, hce, hcv, hcl, st⟩
  · exact hf.elim
  · rw [h0] at hz hk
    obtain ⟨t2, a1, b1⟩ := kk N2 v1 T'.heap (locs ++ L9) ce q hN2 hP (by rw [e1]; exact hRp)
      ⟨Nat.le_trans hS.1 (by rw [e1]; exact hz), fun q9 h1 h2 => by rw [e1, hk q9 (Nat.lt_of_lt_of_le h1 hS.1) h2]; exact hS.2.1 q9 h1 h2, fun q9 hq => by
        rcases List.mem_append.mp hq with h | h
        · exact hS.2.2 q9 h
        · exact hL q9 h⟩ (by rw [e1]; exact hce) hcv hcl T' rfl X'
    exact ⟨t2, st.trans a1, b1⟩
theorem M_tS (C : CX κ Y d mc ms) (hn : NH κ) (hR : Thr Y2 d2 mc2 ms2 as N T v E PX) (W2 : YS Y2 np) (lk : Cond.methodLink Y.1.cls idx Y2.1 ∈ GW) (hl : as.length = np)
    (hd : decode Y.2.1 pc = .ok (.invokestatic idx, 3)) (hst : st = as.reverse ++ rest) (hw : mcs rest ≤ 8) (hdd : d2 + 1 ≤ d) (hk : k + mc2 ≤ mc ∧ n + ms2 ≤ ms) (hN : N0 ≤ N)
    (hP : ∀ v1, PX v1 → PX2 v1) : M κ N T pc L st v k n (QX κ E N0 T PX2 mc ms) := by
  subst hst
  obtain ⟨p, l, e, R, s, m, args, below, meth, c', b, δ⟩ := κ
  obtain ⟨hx', hb, hown, hts, hKK, hEX, hlocks, hnm, hret, hml, hst, hbs, hr1, hr2, hr3, hr4⟩ := C
  intro H locs ls hRp hS hL
  obtain ⟨W2, w6⟩ := W2
  obtain ⟨cb1, cb2, cb3, cb4, cb5⟩ := cbR (R := R) (own := Y.1.cls) (idx := idx) (mc2 := mc2) (ms2 := ms2) W2 hts hdd hr1 hr2
  have hstk : (as.reverse ++ rest).map (tv b) = (as.map (tv b)).reverse ++ rest.map (tv b) := by
    rw [List.map_append, List.map_reverse]
  rw [hstk]
  have hroom := lv_room (m := m) (pc := pc) (ls := ls) (rest := (as.map (tv b)).reverse ++ rest.map (tv b)) (st := rest.map (tv b)) (by rw [mcs_tv]; exact hw)
  refine run_thr (δ := δ) (N := N) (T := T) (E := E) (PX := PX) (a := (as.map (tv b)).toArray) (rest0 := rest.map (tv b)) (mc2 := mc2) (ms2 := ms2) ?_ hS (fun N2 v1 H1 locs1 ce q hN2 hP1 hR1 hS1 hce hcv hcl => ?_)
  · exact vx_runS (nL := c'.maxLocals) (Ts := GW) ⟨hx', hb, rfl, hown, hts⟩ (hR l b δ hst) ⟨⟨cb1.1, cb1.2.1, cb1.2.2.1, cb1.2.2.2.1, cb1.2.2.2.2.1, cb1.2.2.2.2.2, cb2, cb3, cb4, cb5, hts _ lk⟩, hts _ w6⟩ ⟨blindR, preR rfl hRp hKK hEX hS⟩ rfl (by rw [List.length_map]; exact hl) hL.2.1 rfl hroom hd ⟨by omega, by omega⟩
  · exact vx_out (fun x hx => (hn x hx).elim) hlocks hce hcv hcl (fun t ht _ => ⟨rfl, N2, v1, Nat.le_trans hN hN2, hP _ hP1, by rw [ht]; exact hR1, by rw [ht]; exact hS1.1, fun q q1 q2 => by rw [ht]; exact hS1.2.1 q q1 q2⟩) hS1.2.2 hk.1 hk.2
theorem M_tV (C : CX κ Y d mc ms) (hn : NH κ) {i : Int} {a c : Nat} (hR : Thr Y2 d2 mc2 ms2 (vR i :: as) N T v E PX) (W2 : YV Y2 np) (lk : Cond.methodLink Y.1.cls idx Y2.1 ∈ GW) (hi : i = (a : Int)) (hT : (T a).1 = c + 5) (hc : ∃ Tt Nn, vwCl[c]? = some (Y2.1.cls, Tt, Nn)) (hl : as.length = np)
    (hd : decode Y.2.1 pc = .ok (.invokevirtual idx, 3)) (hst : st = as.reverse ++ vR i :: rest) (hw : mcs rest ≤ 8) (hdd : d2 + 1 ≤ d) (hk : k + mc2 ≤ mc ∧ n + ms2 ≤ ms) (hN : N0 ≤ N)
    (hP : ∀ v1, PX v1 → PX2 v1) : M κ N T pc L st v k n (QX κ E N0 T PX2 mc ms) := by
  subst hst
  have h0 : 0 ≤ i := by omega
  have hT : (T i.toNat).1 = c + 5 := by rw [hi]; exact hT
  obtain ⟨p, l, e, R, s, m, args, below, meth, c', b, δ⟩ := κ
  obtain ⟨hx', hb, hown, hts, hKK, hEX, hlocks, hnm, hret, hml, hst, hbs, hr1, hr2, hr3, hr4⟩ := C
  intro H locs ls hRp hS hL
  obtain ⟨W2, w6, w7⟩ := W2
  obtain ⟨cb1, cb2, cb3, cb4, cb5⟩ := cbR (R := R) (own := Y.1.cls) (idx := idx) (mc2 := mc2) (ms2 := ms2) W2 hts hdd hr1 hr2
  obtain ⟨Tt, Nn, hc⟩ := hc
  have h1 := (hRp.2.2 i.toNat (by rw [hT]; exact Nat.succ_ne_zero _)).2
  have h2 : cellR b δ (c + 5, (T i.toNat).2.1, (T i.toNat).2.2) (v i.toNat) (b + i.toNat) H := by
    rw [← hT]; exact h1
  have hrecv := va_recv hKK (obj_P h2 hc) (ci := c) (q0 := 0) hc rfl
  have hstk : (as.reverse ++ vR i :: rest).map (tv b) = (as.map (tv b)).reverse ++ .ref (b + i.toNat) :: rest.map (tv b) := by
    rw [List.map_append, List.map_reverse, List.map_cons]
    simp only [tv, rf_pos h0]
  have hav : (Value.ref (b + i.toNat) :: as.map (tv b)).toArray = ((vR i :: as).map (tv b)).toArray := by
    rw [List.map_cons]
    simp only [tv, rf_pos h0]
  rw [hstk]
  have hroom := lv_room (m := m) (pc := pc) (ls := ls) (rest := (as.map (tv b)).reverse ++ .ref (b + i.toNat) :: rest.map (tv b)) (st := rest.map (tv b)) (by rw [mcs_tv]; exact hw)
  refine run_thr (δ := δ) (N := N) (T := T) (E := E) (PX := PX) (a := (Value.ref (b + i.toNat) :: as.map (tv b)).toArray) (rest0 := rest.map (tv b)) (mc2 := mc2) (ms2 := ms2) ?_ hS (fun N2 v1 H1 locs1 ce q hN2 hP1 hR1 hS1 hce hcv hcl => ?_)
  · exact vx_runV (C := Y2.1.cls) (nL := c'.maxLocals) (Ts := GW) ⟨hx', hb, rfl, hown, hts⟩ (hR l b δ hst) ⟨⟨cb1.1, cb1.2.1, cb1.2.2.1, cb1.2.2.2.1, cb1.2.2.2.2.1, cb1.2.2.2.2.2, cb2, cb3, cb4, cb5, hts _ lk⟩, hts _ w6, hts _ w7⟩ ⟨blindR, hrecv, preR hav hRp hKK hEX hS⟩ rfl (by rw [List.length_map]; exact hl) hL.2.1 rfl hroom hd ⟨by omega, by omega⟩
  · exact vx_out (fun x hx => (hn x hx).elim) hlocks hce hcv hcl (fun t ht _ => ⟨rfl, N2, v1, Nat.le_trans hN hN2, hP _ hP1, by rw [ht]; exact hR1, by rw [ht]; exact hS1.1, fun q q1 q2 => by rw [ht]; exact hS1.2.1 q q1 q2⟩) hS1.2.2 hk.1 hk.2
end ROWS9
