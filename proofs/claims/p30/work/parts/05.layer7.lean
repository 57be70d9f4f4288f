-- the heap's rows by numbers of cells
def fldP (c k : Nat) : Bool := match vwCl[c]? with
  | some r => !(r.2.1 k).2.2.2 && decide (parseFieldDescriptor (r.2.1 k).2.2.1 = some .int)
  | none => false
theorem GW_sub {ws : List Cond} (ps : List Nat) (hp : ws = ps.filterMap (fun i => tables_1[i]?)) (hg : ws.all goodWord = true) : ∀ w ∈ ws, w ∈ GW := by
  intro w hw
  have h1 := List.all_eq_true.mp hg w hw
  rw [hp] at hw
  obtain ⟨i, -, hi⟩ := List.mem_filterMap.mp hw
  exact GW_t hi h1
section ROWS8
variable {κ : KX} {Y : MD} {d mc ms N : Nat} {T : Ty} {pc : Nat} {L : List (Option MV)} {st : List MV} {v : Ct} {k n : Nat} {Q : State → Prop}
theorem A_getI (C : CX κ Y d mc ms) {idx c kf n0 a : Nat} {lk : Nat → Int} {i : Int} (F : FL Y.1.cls idx c kf) (hf : fldI c kf = true) (hi : i = (a : Int)) (hT : T a = (c + 5, n0, lk))
    (hd : decode Y.2.1 pc = .ok (.getfield idx, 3)) (kk : i32 (v a kf) → M κ N T (pc + 3) L (vI (v a kf) :: st) v k n Q) : M κ N T pc L (vR i :: st) v k n Q := by
  subst hi
  exact M_getI C F hf (Int.natCast_nonneg a) hT hd kk
theorem A_getR (C : CX κ Y d mc ms) {idx c kf n0 a : Nat} {lk : Nat → Int} {i j : Int} (F : FL Y.1.cls idx c kf) (hf : fldI c kf = false) (hi : i = (a : Int)) (hT : T a = (c + 5, n0, lk)) (hj : lk kf = j)
    (hd : decode Y.2.1 pc = .ok (.getfield idx, 3)) (kk : M κ N T (pc + 3) L (vR j :: st) v k n Q) : M κ N T pc L (vR i :: st) v k n Q := by
  subst hi
  exact M_getR C F hf (Int.natCast_nonneg a) hT hj hd kk
theorem A_putI (C : CX κ Y d mc ms) {idx c kf n0 a : Nat} {lk : Nat → Int} {i x : Int} (F : FL Y.1.cls idx c kf) (hf : fldI c kf = true) (hp : fldP c kf = true) (hi : i = (a : Int)) (hT : T a = (c + 5, n0, lk)) (hx : i32 x)
    (hd : decode Y.2.1 pc = .ok (.putfield idx, 3)) (kk : M κ N T (pc + 3) L st (up v a kf x) k n Q) : M κ N T pc L (vI x :: vR i :: st) v k n Q := by
  subst hi
  refine M_putI C F hf (fun Cn Tt Nn hc => ?_) (Int.natCast_nonneg a) hT hx hd kk
  unfold fldP at hp
  rw [hc] at hp
  simp only [Bool.and_eq_true, Bool.not_eq_true', decide_eq_true_eq] at hp
  exact hp
theorem A_iald (C : CX κ Y d mc ms) {a q len : Nat} {lk : Nat → Int} {i j : Int} (hi : i = (a : Int)) (hT : T a = (1, len, lk)) (hl : len ≤ 65536) (hj : j = (q : Int)) (hq : q < len)
    (hd : decode Y.2.1 pc = .ok (.iaload, 1)) (kk : i32 (v a q) → M κ N T (pc + 1) L (vI (v a q) :: st) v k n Q) : M κ N T pc L (vI j :: vR i :: st) v k n Q := by
  subst hi; subst hj
  exact M_iald C (Int.natCast_nonneg a) hT ⟨by omega, by omega⟩ (by omega) hd kk
theorem A_aald (C : CX κ Y d mc ms) {a q len : Nat} {lk : Nat → Int} {i j : Int} (hi : i = (a : Int)) (hT : T a = (4, len, lk)) (hl : len ≤ 65536) (hj : j = (q : Int)) (hq : q < len)
    (hd : decode Y.2.1 pc = .ok (.aaload, 1)) (kk : i32 (v a q) → M κ N T (pc + 1) L (vR (v a q) :: st) v k n Q) : M κ N T pc L (vI j :: vR i :: st) v k n Q := by
  subst hi; subst hj
  exact M_aald C (Int.natCast_nonneg a) hT ⟨by omega, by omega⟩ (by omega) hd kk
theorem A_iast (C : CX κ Y d mc ms) {a q len : Nat} {lk : Nat → Int} {i j x : Int} (hi : i = (a : Int)) (hT : T a = (1, len, lk)) (hl : len ≤ 65536) (hj : j = (q : Int)) (hq : q < len) (hx : i32 x)
    (hd : decode Y.2.1 pc = .ok (.iastore, 1)) (kk : M κ N T (pc + 1) L st (up v a q x) k n Q) : M κ N T pc L (vI x :: vI j :: vR i :: st) v k n Q := by
  subst hi; subst hj
  exact M_iast C (Int.natCast_nonneg a) hT ⟨by omega, by omega⟩ (by omega) hx hd kk
theorem A_aast (C : CX κ Y d mc ms) {a q len n2 g : Nat} {lk lk2 : Nat → Int} {i j x : Int} (hi : i = (a : Int)) (hT : T a = (4, len, lk)) (hl : len ≤ 65536) (hj : j = (q : Int)) (hq : q < len) (hx : x = (g : Int)) (hTx : T g = (5, n2, lk2)) (hg : i32 x)
    (hd : decode Y.2.1 pc = .ok (.aastore, 1)) (kk : M κ N T (pc + 1) L st (up v a q x) k n Q) : M κ N T pc L (vR x :: vI j :: vR i :: st) v k n Q := by
  subst hi; subst hj; subst hx
  exact M_aast C (Int.natCast_nonneg a) hT ⟨by omega, by omega⟩ (by omega) (Int.natCast_nonneg g) hTx hg hd kk
section calls
variable {rest : List MV} {Y2 : MD} {d2 np idx N2 : Nat} {as : List MV} {T2 : Ty} {v2 : Ct} {Post : Option MV → Ct → Prop}
/-- calls that make nothing: an answer; no answer; by what holds then, or exact -/
theorem A_pV (C : CX κ Y d mc ms) {i : Int} {a c : Nat} (hR : RunsP Y2 d2 0 0 (vR i :: as) N T v N T2 Post) (W2 : YV Y2 np) (lk : LK Y.1.cls idx Y2.1) (hi : i = (a : Int)) (hT : (T a).1 = c + 5) (hc : ∃ Tt Nn, vwCl[c]? = some (Y2.1.cls, Tt, Nn)) (hl : as.length = np)
    (hd : decode Y.2.1 pc = .ok (.invokevirtual idx, 3)) (hst : st = as.reverse ++ vR i :: rest) (hw : mcs rest ≤ 8) (hdd : d2 + 1 ≤ d) (hk : k ≤ mc ∧ n ≤ ms)
    (kk : ∀ r v2, Post r v2 → M κ N T2 (pc + 3) L (r.toList ++ rest) v2 k n Q) : M κ N T pc L st v k n Q := by
  subst hi
  exact M_callV C hR W2 lk (Int.natCast_nonneg a) hT hc hl hd hst hw hdd hk kk
theorem A_pS (C : CX κ Y d mc ms) (hR : RunsP Y2 d2 0 0 as N T v N T2 Post) (W2 : YS Y2 np) (lk : LK Y.1.cls idx Y2.1) (hl : as.length = np)
    (hd : decode Y.2.1 pc = .ok (.invokestatic idx, 3)) (hst : st = as.reverse ++ rest) (hw : mcs rest ≤ 8) (hdd : d2 + 1 ≤ d) (hk : k ≤ mc ∧ n ≤ ms)
    (kk : ∀ r v2, Post r v2 → M κ N T2 (pc + 3) L (r.toList ++ rest) v2 k n Q) : M κ N T pc L st v k n Q :=
  M_callS C hR W2 lk hl hd hst hw hdd hk kk
theorem A_cV (C : CX κ Y d mc ms) {i : Int} {a c : Nat} {x : MV} (hR : Runs Y2 d2 0 0 (vR i :: as) N T v (some x) N T2 v2) (W2 : YV Y2 np) (lk : LK Y.1.cls idx Y2.1) (hi : i = (a : Int)) (hT : (T a).1 = c + 5) (hc : ∃ Tt Nn, vwCl[c]? = some (Y2.1.cls, Tt, Nn)) (hl : as.length = np)
    (hd : decode Y.2.1 pc = .ok (.invokevirtual idx, 3)) (hst : st = as.reverse ++ vR i :: rest) (hw : mcs rest ≤ 8) (hdd : d2 + 1 ≤ d) (hk : k ≤ mc ∧ n ≤ ms)
    (kk : M κ N T2 (pc + 3) L (x :: rest) v2 k n Q) : M κ N T pc L st v k n Q :=
  A_pV C hR W2 lk hi hT hc hl hd hst hw hdd hk (fun r v3 h => by rw [h.1, h.2]; exact kk)
theorem A_cVv (C : CX κ Y d mc ms) {i : Int} {a c : Nat} (hR : Runs Y2 d2 0 0 (vR i :: as) N T v none N T2 v2) (W2 : YV Y2 np) (lk : LK Y.1.cls idx Y2.1) (hi : i = (a : Int)) (hT : (T a).1 = c + 5) (hc : ∃ Tt Nn, vwCl[c]? = some (Y2.1.cls, Tt, Nn)) (hl : as.length = np)
    (hd : decode Y.2.1 pc = .ok (.invokevirtual idx, 3)) (hst : st = as.reverse ++ vR i :: rest) (hw : mcs rest ≤ 8) (hdd : d2 + 1 ≤ d) (hk : k ≤ mc ∧ n ≤ ms)
    (kk : M κ N T2 (pc + 3) L rest v2 k n Q) : M κ N T pc L st v k n Q :=
  A_pV C hR W2 lk hi hT hc hl hd hst hw hdd hk (fun r v3 h => by rw [h.1, h.2]; exact kk)
theorem A_cS (C : CX κ Y d mc ms) {x : MV} (hR : Runs Y2 d2 0 0 as N T v (some x) N T2 v2) (W2 : YS Y2 np) (lk : LK Y.1.cls idx Y2.1) (hl : as.length = np)
    (hd : decode Y.2.1 pc = .ok (.invokestatic idx, 3)) (hst : st = as.reverse ++ rest) (hw : mcs rest ≤ 8) (hdd : d2 + 1 ≤ d) (hk : k ≤ mc ∧ n ≤ ms)
    (kk : M κ N T2 (pc + 3) L (x :: rest) v2 k n Q) : M κ N T pc L st v k n Q :=
  A_pS C hR W2 lk hl hd hst hw hdd hk (fun r v3 h => by rw [h.1, h.2]; exact kk)
theorem A_cSv (C : CX κ Y d mc ms) (hR : Runs Y2 d2 0 0 as N T v none N T2 v2) (W2 : YS Y2 np) (lk : LK Y.1.cls idx Y2.1) (hl : as.length = np)
    (hd : decode Y.2.1 pc = .ok (.invokestatic idx, 3)) (hst : st = as.reverse ++ rest) (hw : mcs rest ≤ 8) (hdd : d2 + 1 ≤ d) (hk : k ≤ mc ∧ n ≤ ms)
    (kk : M κ N T2 (pc + 3) L rest v2 k n Q) : M κ N T pc L st v k n Q :=
  A_pS C hR W2 lk hl hd hst hw hdd hk (fun r v3 h => by rw [h.1, h.2]; exact kk)
end calls
/-- a loop that counts up: what holds at the head with i, and one turn -/
theorem loop_up {P : Nat → Prop} (m : Nat) (hend : P m) (hstep : ∀ i, i < m → P (i + 1) → P i) : P 0 := by
  have h : ∀ j, j ≤ m → P (m - j) := by
    intro j
    induction j with
    | zero => intro _; exact hend
    | succ j ih =>
      intro hj
      refine hstep (m - (j + 1)) (by omega) ?_
      rw [show m - (j + 1) + 1 = m - j by omega]
      exact ih (by omega)
  have h2 := h m (Nat.le_refl m)
  rwa [Nat.sub_self] at h2
theorem loop_from {P : Nat → Prop} (a m : Nat) (ha : a ≤ m) (hend : P m) (hstep : ∀ i, a ≤ i → i < m → P (i + 1) → P i) : P a := by
  have h := loop_up (P := fun j => P (a + j)) (m - a) (by rw [show a + (m - a) = m by omega]; exact hend) (fun i hi h => hstep (a + i) (by omega) (by omega) h)
  exact h
end ROWS8
