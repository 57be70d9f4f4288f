/-! the call of a method with handlers -/
def YE (Y : MD) (hh : List (Nat × Nat × Nat × Nat)) (np : Nat) : Prop := Cond.codeWith Y.1 Y.2.1 Y.2.2.1 Y.2.2.2 hh ∈ GW ∧ Cond.initialized Y.1.cls ∈ GW ∧ (Y.1.cls ≠ "java/lang/invoke/MethodHandle" ∧ Y.1.cls ≠ "java/lang/invoke/VarHandle") ∧ (parseMethodDescriptor Y.1.desc).map (fun d => d.parameters.length) = some np ∧ Y.2.2.1 ≤ 61 ∧ Cond.static Y.1 ∈ GW
theorem GW_payH {Y : MD} {hh : List (Nat × Nat × Nat × Nat)} (h : Cond.codeWith Y.1 Y.2.1 Y.2.2.1 Y.2.2.2 hh ∈ GW) {args : Array Value} {s : State} (hts : ∀ w ∈ GW, w.before args s = true) : ∀ w ∈ wsH Y hh, ∀ (a' : Array Value) (U : State), s.WarmedH U.vm → w.before a' U = true := by
  refine pay_in hts fun w hw => ?_
  rcases List.mem_cons.mp hw with e | e
  · rw [e]; exact ⟨h, good_of_word (GW_good _ h)⟩
  · exact ⟨e, good_of_word (GW_good _ e)⟩
section ROWSK
variable {κ : KX} {Y : MD} {d mc ms N : Nat} {T : Ty} {pc : Nat} {L : List (Option MV)} {st rest : List MV} {v : Ct} {k n : Nat} {Q : State → Prop}
variable {Y2 : MD} {d2 mc2 ms2 np idx : Nat} {as : List MV} {Post : Option MV → Nat → Ty → Ct → Prop} {hh : List (Nat × Nat × Nat × Nat)}
theorem run_goE {p : Program} {l : Launch} {e : Env} {R : Room} {s : State} {m : MethodId} {args : Array Value} {below : List Frame} {meth : Method} {c : Code} {H : Heap} {locs : List Loc} {b : Nat} {δ : DL} {ls : Array Slot} {st0 rest0 : List Value} {a : Array Value}
    (hr : vx_Run p l e R s m args below meth c H locs k n mc2 ms2 (F0 m pc ls st0) rest0 (QcE b δ Post a) (fun _ _ _ => False) (AB b)) (hS : va_S (AB b) s.heap H locs)
    (kk : ∀ (r : Option MV) (N2 : Nat) (T2 : Ty) (v2 : Ct) (H1 : Heap) (locs1 : List Loc), Post r N2 T2 v2 → Rep b δ N2 T2 v2 H1 → va_S (AB b) s.heap H1 locs1 → W p l e R s m args below meth c H1 locs1 (k + mc2) (n + ms2) Q (F0 m (pc + 3) ls ((r.map (tv b)).toList ++ rest0))) : W p l e R s m args below meth c H locs k n Q (F0 m pc ls st0) := by
  intro T0 hT X
  rcases hr T0 hT X with ⟨x, st₀, t, T', L9, h0, X', hL, e1, e2, ⟨r, N2, T2, v2, hpo, hv, hRp, hz, hk⟩, st⟩ | ⟨q, st₀, t, T', L9, E9, ce, h0, X', hL, e1, e2, hf, -⟩
  · cases hv
    rw [h0] at hz hk
    obtain ⟨t2, a1, b1⟩ := kk r N2 T2 v2 T'.heap (locs ++ L9) hpo (by rw [e1]; exact hRp)
      ⟨Nat.le_trans hS.1 (by rw [e1]; exact hz), fun q h1 h2 => by rw [e1, hk q (Nat.lt_of_lt_of_le h1 hS.1) h2]; exact hS.2.1 q h1 h2, fun q hq => by
        rcases List.mem_append.mp hq with h | h
        · exact hS.2.2 q h
        · exact hL q h⟩ T' rfl X'
    exact ⟨t2, st t2 a1, b1⟩
  · exact hf.elim
theorem M_callE (C : CX κ Y d mc ms) (hR : RunsE Y2 hh d2 mc2 ms2 as N T v Post) (W2 : YE Y2 hh np) (lk : Cond.methodLink Y.1.cls idx Y2.1 ∈ GW) (hl : as.length = np)
    (hd : decode Y.2.1 pc = .ok (.invokestatic idx, 3)) (hst : st = as.reverse ++ rest) (hw : mcs rest ≤ 8) (hdd : d2 + 1 ≤ d) (hk : k + mc2 ≤ mc ∧ n + ms2 ≤ ms)
    (kk : ∀ r N2 T2 v2, Post r N2 T2 v2 → M κ N2 T2 (pc + 3) L (r.toList ++ rest) v2 (k + mc2) (n + ms2) Q) : M κ N T pc L st v k n Q := by
  subst hst
  obtain ⟨p, l, e, R, s, m, args, below, meth, c', b, δ⟩ := κ
  obtain ⟨hx', hb, hown, hts, hKK, hEX, hlocks, hnm, hret, hml, hst, -, hr1, hr2, hr3, hr4⟩ := C
  intro H locs ls hRp hS hL
  obtain ⟨w1, w2, w3, w4, w5, w6⟩ := W2
  have hstk : (as.reverse ++ rest).map (tv b) = (as.map (tv b)).reverse ++ rest.map (tv b) := by
    rw [List.map_append, List.map_reverse]
  rw [hstk]
  have hroom := lv_room (m := m) (pc := pc) (ls := ls) (rest := (as.map (tv b)).reverse ++ rest.map (tv b)) (st := rest.map (tv b)) (by rw [mcs_tv]; exact hw)
  have cw : vx_CSW R s args Y.1.cls idx Y2.1 Y2.2.1 Y2.2.2.1 Y2.2.2.2 hh (wsH Y2 hh) (rmd d2 mc2 ms2) mc2 ms2 np := by
    refine ⟨⟨rfl, rfl, ?_, ?_, GW_payH w1 hts, List.mem_cons_self⟩, hts _ w1, hts _ w2, w3, fun sig h => ?_, hts _ lk, hts _ w6⟩
    · show d2 + 1 ≤ R.frames
      omega
    · show 8 + (Y2.2.2.1 + 11) + 80 * d2 ≤ R.locals
      omega
    · rw [h] at w4
      exact (Option.some.inj w4).symm
  refine run_goE (δ := δ) (a := (as.map (tv b)).toArray) (rest0 := rest.map (tv b)) (Post := Post) (mc2 := mc2) (ms2 := ms2) ?_ hS (fun r N2 T2 v2 H1 locs1 hpo hR1 hS1 => ?_)
  · exact vx_runSX (nL := c'.maxLocals) (Ts := GW) (hh := hh) ⟨hx', hb, rfl, hown, hts⟩ (hR l b δ hst) cw ⟨blindR, preR rfl hRp hKK hEX hS⟩ rfl (by rw [List.length_map]; exact hl) hL.2.1 rfl hroom hd ⟨by omega, by omega⟩
  · have h9 := kk r N2 T2 v2 hpo H1 locs1 ls hR1 hS1 hL
    cases r with
    | none => exact h9
    | some x => exact h9
end ROWSK
