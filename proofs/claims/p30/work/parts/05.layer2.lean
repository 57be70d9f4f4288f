-- numbers
abbrev i32 (x : Int) : Prop := -2147483648 ≤ x ∧ x < 2147483648
theorem i32_to {x : Int} (h : i32 x) : (Int32.ofInt x).toInt = x := by
  rw [Int32.toInt_ofInt]
  exact Int.bmod_eq_of_le (show -((4294967296 : Nat) : Int) / 2 ≤ x by omega) (show x < (((4294967296 : Nat) : Int) + 1) / 2 by omega)
theorem ofInt_le {x y : Int} (hx : i32 x) (hy : i32 y) : Int32.ofInt x ≤ Int32.ofInt y ↔ x ≤ y := by
  rw [Int32.le_iff_toInt_le, i32_to hx, i32_to hy]
theorem ofInt_lt {x y : Int} (hx : i32 x) (hy : i32 y) : Int32.ofInt x < Int32.ofInt y ↔ x < y := by
  rw [Int32.lt_iff_toInt_lt, i32_to hx, i32_to hy]
theorem ofInt_inj {x y : Int} (hx : i32 x) (hy : i32 y) : Int32.ofInt x = Int32.ofInt y ↔ x = y := by
  rw [← Int32.toInt_inj, i32_to hx, i32_to hy]
theorem ofInt_nat {x : Int} (h : 0 ≤ x ∧ x < 2147483648) : (Int32.ofInt x).toNatClampNeg = x.toNat := by
  rw [Int32.toNatClampNeg, i32_to ⟨by omega, by omega⟩]
theorem ofInt_neg {x : Int} (h : 0 ≤ x ∧ x < 2147483648) : ¬ Int32.ofInt x < 0 := by
  rw [show (0 : Int32) = Int32.ofInt 0 from rfl, ofInt_lt ⟨by omega, by omega⟩ ⟨by omega, by omega⟩]
  omega
theorem ofInt_div {x y : Int} (hx : 0 ≤ x ∧ x < 2147483648) (hy : 0 < y ∧ y < 2147483648) : Int32.ofInt x / Int32.ofInt y = Int32.ofInt (x / y) := by
  rw [← Int32.toInt_inj, Int32.toInt_div, i32_to ⟨by omega, by omega⟩, i32_to ⟨by omega, by omega⟩]
  have h1 : 0 ≤ x / y := Int.ediv_nonneg hx.1 (by omega)
  have h2 : x / y ≤ x := Int.ediv_le_self y hx.1
  rw [i32_to ⟨by omega, by omega⟩, Int.tdiv_eq_ediv_of_nonneg hx.1]
  exact Int.bmod_eq_of_le (by omega) (by omega)
theorem ofInt_add (x y : Int) : Int32.ofInt x + Int32.ofInt y = Int32.ofInt (x + y) := (Int32.ofInt_add x y).symm
theorem ofInt_sub (x y : Int) : Int32.ofInt x - Int32.ofInt y = Int32.ofInt (x - y) := (Int32.ofInt_sub x y).symm
theorem ofInt_mul (x y : Int) : Int32.ofInt x * Int32.ofInt y = Int32.ofInt (x * y) := (Int32.ofInt_mul x y).symm
theorem ofInt_rem {x y : Int} (hx : 0 ≤ x ∧ x < 2147483648) (hy : 0 < y ∧ y < 2147483648) : Int32.ofInt x - Int32.ofInt x / Int32.ofInt y * Int32.ofInt y = Int32.ofInt (x % y) := by
  rw [ofInt_div hx hy, ofInt_mul, ofInt_sub]
  congr 1
  have h := Int.mul_ediv_add_emod x y
  rw [Int.mul_comm] at h
  omega
theorem lofInt_add (x y : Int) : Int64.ofInt x + Int64.ofInt y = Int64.ofInt (x + y) := (Int64.ofInt_add x y).symm
theorem lofInt_mul (x y : Int) : Int64.ofInt x * Int64.ofInt y = Int64.ofInt (x * y) := (Int64.ofInt_mul x y).symm
theorem i2l_of {x : Int} (h : i32 x) : (Int32.ofInt x).toInt64 = Int64.ofInt x := by
  rw [← Int64.toInt_inj, Int32.toInt_toInt64, i32_to h, Int64.toInt_ofInt]
  exact (Int.bmod_eq_of_le (show -(((18446744073709551616 : Nat) : Int) / 2) ≤ x by omega) (show x < (((18446744073709551616 : Nat) : Int) + 1) / 2 by omega)).symm
-- the heap's tables
abbrev Ty : Type := Nat → Nat × Nat × (Nat → Int)
abbrev Ct : Type := Nat → Nat → Int
abbrev DL : Type := va_G × (ClassId × ClassId × ClassId × ClassId)
def up (v : Ct) (i j : Nat) (x : Int) : Ct := fun a b => if a = i ∧ b = j then x else v a b
def upL (T : Ty) (i j : Nat) (x : Int) : Ty := fun a => if a = i then ((T a).1, (T a).2.1, fun b => if b = j then x else (T a).2.2 b) else T a
def newT (T : Ty) (N k n : Nat) : Ty := fun a => if a = N then (k, n, fun _ => -1) else T a
def newV (v : Ct) (N : Nat) (z : Int) : Ct := fun a => if a = N then fun _ => z else v a
/-- is field k of class c an int? -/
def fldI (c k : Nat) : Bool := match vwCl[c]? with
  | some r => (r.2.1 k).2.2.1 == "I"
  | none => false
def objV (b c : Nat) (lk f : Nat → Int) (k : Nat) : Value := if fldI c k = true then .int (Int32.ofInt (f k)) else rf b (lk k)
/-- what the cell a of the heap H is: nothing known, int[], boolean[], long[], Disk[], an object -/
def cellR (b : Nat) (δ : DL) (t : Nat × Nat × (Nat → Int)) (f : Nat → Int) (a : Nat) (H : Heap) : Prop := match t.1 with
  | 0 => True
  | 1 => H[a]? = some (arrV δ.2.1 t.2.1 (fun j => .int (Int32.ofInt (f j))))
  | 2 => H[a]? = some (arrV δ.2.2.1 t.2.1 (fun j => .int (Int32.ofInt (f j))))
  | 3 => H[a]? = some (arrV δ.2.2.2.1 t.2.1 (fun j => .long (Int64.ofInt (f j))))
  | 4 => H[a]? = some (arrV δ.2.2.2.2 t.2.1 (fun j => rf b (f j)))
  | c + 5 => ∃ r : vw_C, vwCl[c]? = some r ∧ t_OB a (δ.1.1 c) r.2.2 (δ.1.2 c) H (objV b c t.2.2 f)
theorem cellR.kept {b : Nat} {δ : DL} {t : Nat × Nat × (Nat → Int)} {f : Nat → Int} {a : Nat} {H H1 : Heap} (h : cellR b δ t f a H) (hq : H1[a]? = H[a]?) : cellR b δ t f a H1 := by
  unfold cellR at h ⊢
  split at h
  · trivial
  · rw [hq]; exact h
  · rw [hq]; exact h
  · rw [hq]; exact h
  · rw [hq]; exact h
  · obtain ⟨r, h1, h2⟩ := h
    exact ⟨r, h1, h2.kept hq⟩
def Rep (b : Nat) (δ : DL) (N : Nat) (T : Ty) (v : Ct) (H : Heap) : Prop := H.size = b + N ∧ (∀ i j, i32 (v i j)) ∧ ∀ i, (T i).1 ≠ 0 → i < N ∧ cellR b δ (T i) (v i) (b + i) H
theorem up_i32 {v : Ct} (h : ∀ i j, i32 (v i j)) {x : Int} (hx : i32 x) (i j : Nat) : ∀ a c, i32 (up v i j x a c) := by
  intro a c
  unfold up
  split
  · exact hx
  · exact h a c
/-- one cell anew, its kind as it was -/
theorem Rep.set {b : Nat} {δ : DL} {N : Nat} {T T' : Ty} {v v' : Ct} {H H1 : Heap} {i : Nat} (h : Rep b δ N T v H) (hi : (T i).1 ≠ 0) (z : H1.size = H.size) (oq : ∀ q : Nat, q ≠ b + i → H1[q]? = H[q]?)
    (hT : ∀ a, a ≠ i → T' a = T a) (hv : ∀ a, a ≠ i → v' a = v a) (hr : ∀ i j, i32 (v' i j)) (hc : cellR b δ (T' i) (v' i) (b + i) H1) : Rep b δ N T' v' H1 := by
  refine ⟨z.trans h.1, hr, fun a ha => ?_⟩
  by_cases e : a = i
  · subst e
    exact ⟨(h.2.2 a hi).1, hc⟩
  · rw [hT a e] at ha ⊢
    rw [hv a e]
    obtain ⟨h1, h2⟩ := h.2.2 a ha
    exact ⟨h1, h2.kept (oq _ (by omega))⟩
/-- one cell more -/
theorem Rep.push {b : Nat} {δ : DL} {N : Nat} {T : Ty} {v : Ct} {H H1 : Heap} {t : Nat × Nat × (Nat → Int)} {f : Nat → Int} {T' : Ty} {v' : Ct} (h : Rep b δ N T v H) (z : H1.size = H.size + 1) (oq : ∀ q : Nat, q < H.size → H1[q]? = H[q]?)
    (hT : ∀ a, T' a = if a = N then t else T a) (hv : ∀ a, v' a = if a = N then f else v a) (hf : ∀ j, i32 (f j)) (hc : cellR b δ t f (b + N) H1) : Rep b δ (N + 1) T' v' H1 := by
  refine ⟨by rw [z, h.1]; omega, fun i j => ?_, fun a ha => ?_⟩
  · rw [hv]
    split
    · exact hf j
    · exact h.2.1 i j
  · by_cases e : a = N
    · subst e
      rw [hT, if_pos rfl, hv, if_pos rfl]
      exact ⟨by omega, hc⟩
    · rw [hT, if_neg e] at ha ⊢
      rw [hv, if_neg e]
      obtain ⟨h1, h2⟩ := h.2.2 a ha
      exact ⟨by omega, h2.kept (oq _ (by rw [h.1]; omega))⟩
-- the tables, and what a throw needs
def KK (δ : DL) (U : State) : Prop := va_K δ.1 vwCl [(δ.2.1, .int), (δ.2.1, .int), (δ.2.1, .int), (δ.2.2.2.2, .object RX0)] U
def AB (b : Nat) : Nat → Prop := fun q => b ≤ q
def strs : List (Nat × String) := [(293, "an argument is out of range"), (286, "there is no such file"), (291, "there is no such block"), (89, "the block is bad already"), (177, "the file has no such cell")]
def wk (w : Cond) : Bool := match w with
  | .declares _ => true
  | .castable _ _ => true
  | .fieldLinkNest _ _ _ _ _ _ => true
  | .methodLinkNest _ _ _ _ => true
  | _ => false
/-- words that stay true as the tables warm, beside the good ones -/
def OW : List Cond := lw_tbl.filter wk
theorem OW_t {w : Cond} {i : Nat} (h : tables_1[i]? = some w) (g : wk w = true) : w ∈ OW := List.mem_filter.mpr ⟨List.mem_append_right _ (List.mem_of_getElem? h), g⟩
theorem OW_warm {w : Cond} (hw : w ∈ OW) {s U : State} (hW : s.WarmedH U.vm) (h : va_Nw w s) : va_Nw w U := by
  have h1 := (List.mem_filter.mp hw).2
  unfold wk at h1
  split at h1
  · exact va_Nw.warmD hW h
  · exact va_Nw.warmC hW h
  · exact va_Nw.warmF hW h
  · exact va_Nw.warmM hW h
  · cases h1
def ncs : List (String × String) := []
def EX (b : Nat) (U : State) (H : Heap) : Prop := vx_Zq Bundle.tN "UNASSIGNED_STACK" Bundle.steD (AB b) U H ∧ vx_Zq Bundle.tN "SUPPRESSED_SENTINEL" Bundle.listD (AB b) U H ∧ (∀ q ∈ strs, ∃ a, vk_R RX7 q.1 q.2 a U) ∧ (∀ w ∈ OW, va_Nw w U) ∧ (∀ q ∈ ncs, va_Nc q.1 q.2 U) ∧ va_AO RX0 U
theorem EX.to {b : Nat} {s U : State} {H H1 : Heap} (h : EX b s H) (hW : s.WarmedH U.vm) (hq : ∀ a : Nat, a < H.size → ¬ AB b a → H1[a]? = H[a]?) : EX b U H1 :=
  ⟨(h.1.kept hq).moved hW.alike, (h.2.1.kept hq).moved hW.alike, fun q m => by obtain ⟨a, ha⟩ := h.2.2.1 q m; exact ⟨a, vk_R.warm hW ha⟩, fun w m => OW_warm m hW (h.2.2.2.1 w m), fun q m => va_Nc.moved hW.alike (h.2.2.2.2.1 q m), va_AO.moved hW.alike h.2.2.2.2.2⟩
theorem EX.calling {b : Nat} {U : State} {H : Heap} {g : JFrame} {mk : MethodId} {a : Array Value} (h : EX b U H) : EX b (U.calling g mk a) H :=
  h.to (U := U.calling g mk a) (State.WarmedH.refl U) (fun _ _ _ => rfl)
theorem EX.ow {b : Nat} {U : State} {H : Heap} (h : EX b U H) {w : Cond} (hw : w ∈ OW) {A : Array Value} : w.before A U = true := by
  have h1 := (List.mem_filter.mp hw).2
  refine va_Nw.use ?_ (h.2.2.2.1 w hw)
  unfold wk at h1
  split at h1 <;> first | rfl | cases h1
-- the judgement
abbrev KX : Type := Program × Launch × Env × Room × State × MethodId × Array Value × List Frame × Method × Code × Nat × DL
abbrev MD : Type := MethodName × ByteArray × Nat × Option FieldType
def M (κ : KX) (N : Nat) (T : Ty) (pc : Nat) (L : List (Option MV)) (st : List MV) (v : Ct) (k n : Nat) (Q : State → Prop) : Prop := match κ with
  | (p, l, e, R, s, m, args, below, meth, c, b, δ) => ∀ (H : Heap) (locs : List Loc) (ls : Array Slot), Rep b δ N T v H → va_S (AB b) s.heap H locs → LH b ls c.maxLocals L →
    W p l e R s m args below meth c H locs k n Q (F0 m pc ls (st.map (tv b)))
def CX (κ : KX) (Y : MD) (d mc ms : Nat) : Prop := match κ with
  | (p, l, e, R, s, m, args, below, meth, c, b, δ) => p.tables.exec = Jvm.exec ∧ c.code = Y.2.1 ∧ s.vm.findClass Y.1.cls = some m.cls ∧ (∀ w ∈ GW, w.before args s = true) ∧ KK δ s ∧ EX b s s.heap ∧ meth.locks = false ∧ meth.name = Y.1.name ∧
    meth.sig.returnType = Y.2.2.2 ∧ c.maxLocals = Y.2.2.1 ∧ l.stackTraces = false ∧ b ≤ s.heap.size ∧ d ≤ R.frames ∧ 80 * d ≤ R.locals ∧ mc ≤ R.cells ∧ ms ≤ R.slots
def rmd (d mc ms : Nat) : Room := { frames := d, cells := mc, slots := ms, locals := 80 * d }
def wsOf (Y : MD) : List Cond := Cond.code Y.1 Y.2.1 Y.2.2.1 Y.2.2.2 :: GW
def PcR (b : Nat) (δ : DL) (as : List MV) (N : Nat) (T : Ty) (v : Ct) : Array Value → State → Prop := fun a U => a = (as.map (tv b)).toArray ∧ Rep b δ N T v U.heap ∧ KK δ U ∧ EX b U U.heap
def QcR (b : Nat) (δ : DL) (Post : Option MV → Ct → Prop) (N : Nat) (T : Ty) : Array Value → State → Outcome → State → Prop := fun _ st o t => ∃ (r : Option MV) (v : Ct), Post r v ∧ o = .returned (r.map (tv b)) ∧ Rep b δ N T v t.heap ∧ va_F (AB b) st t
/-- the contract of a method that returns: what its answer and the contents are then -/
def RunsP (Y : MD) (d mc ms : Nat) (as : List MV) (N : Nat) (T : Ty) (v : Ct) (N' : Nat) (T' : Ty) (Post : Option MV → Ct → Prop) : Prop :=
  ∀ (l : Launch) (b : Nat) (δ : DL), l.stackTraces = false → Met l Y.1 (wsOf Y) (rmd d mc ms) (PcR b δ as N T v) (QcR b δ Post N' T') mc ms (AB b)
/-- .. exact -/
def Runs (Y : MD) (d mc ms : Nat) (as : List MV) (N : Nat) (T : Ty) (v : Ct) (r : Option MV) (N' : Nat) (T' : Ty) (v' : Ct) : Prop := RunsP Y d mc ms as N T v N' T' (fun r1 v1 => r1 = r ∧ v1 = v')
def QP (κ : KX) (N : Nat) (T : Ty) (Post : Option MV → Ct → Prop) (mc ms : Nat) : State → Prop := match κ with
  | (_, _, _, _, s, _, args, below, _, _, b, δ) => MQ below (QcR b δ Post N T) args s mc ms (AB b)
def QR (κ : KX) (r : Option MV) (N : Nat) (T : Ty) (v : Ct) (mc ms : Nat) : State → Prop := QP κ N T (fun r1 v1 => r1 = r ∧ v1 = v) mc ms
theorem AB.ge {b q : Nat} (h : b ≤ q) : AB b q := h
theorem RunsP.of {Y : MD} {d mc ms : Nat} {as : List MV} {N : Nat} {T : Ty} {v : Ct} {N' : Nat} {T' : Ty} {Post : Option MV → Ct → Prop} (hy : plainName Y.1.cls = true) (hlen : (entL as).length ≤ Y.2.2.1)
    (body : ∀ κ : KX, CX κ Y d mc ms → M κ N T 0 (ent as Y.2.2.1) [] v 0 0 (QP κ N' T' Post mc ms)) : RunsP Y d mc ms as N T v N' T' Post := by
  intro l b δ hst
  refine Met.ofW (cc := Y.2.1) (maxL := Y.2.2.1) (ret := Y.2.2.2) hy rfl ?_
  intro p e s m args below meth c s₁ B hml hv
  obtain ⟨rfl, hR, hK, hE⟩ := hv
  have hts : ∀ w ∈ GW, w.before ((as.map (tv b)).toArray) s = true := fun w h => atoms_spec (ws := wsOf Y) B.pre w (List.mem_cons_of_mem _ h)
  have hbs : b ≤ s.heap.size := by rw [hR.1]; omega
  have C : CX (p, l, e, (headSpec (wsOf Y) (rmd d mc ms)).room, s, m, (as.map (tv b)).toArray, below, meth, c, b, δ) Y d mc ms :=
    ⟨B.exec, B.bytes, findClass_of_methodNamed B.named, hts, hK, hE, B.notSynchronized, (name_of_methodNamed B.named B.method).1, B.returns, hml, hst, hbs, Nat.le_refl _, Nat.le_refl _, Nat.le_refl _, Nat.le_refl _⟩
  rw [lg_entry_eq]
  refine body _ C s.heap [] _ hR va_S.rf ?_
  rw [hml]
  exact LH.entry hlen
theorem Runs.of {Y : MD} {d mc ms : Nat} {as : List MV} {N : Nat} {T : Ty} {v : Ct} {r : Option MV} {N' : Nat} {T' : Ty} {v' : Ct} (hy : plainName Y.1.cls = true) (hlen : (entL as).length ≤ Y.2.2.1)
    (body : ∀ κ : KX, CX κ Y d mc ms → M κ N T 0 (ent as Y.2.2.1) [] v 0 0 (QR κ r N' T' v' mc ms)) : Runs Y d mc ms as N T v r N' T' v' := RunsP.of hy hlen body
section ROWS
variable {κ : KX} {Y : MD} {d mc ms N : Nat} {T : Ty} {pc : Nat} {L : List (Option MV)} {st : List MV} {v : Ct} {k n : Nat} {Q : State → Prop}
theorem M.to {v2 : Ct} {L2 : List (Option MV)} {st2 : List MV} (h : M κ N T pc L2 st2 v2 k n Q) (h1 : L = L2) (h2 : st = st2) (h3 : v = v2) : M κ N T pc L st v k n Q := by
  subst h1 h2 h3
  exact h
theorem M_iload (C : CX κ Y d mc ms) {i : Nat} {x : Int} (hd : decode Y.2.1 pc = .ok (.iload i, 2)) (hl : L[i]? = some (some (vI x))) (kk : M κ N T (pc + 2) L (vI x :: st) v k n Q) : M κ N T pc L st v k n Q := by
  obtain ⟨p, l, e, R, s, m, args, below, meth, c, b, δ⟩ := κ
  obtain ⟨hx, hb, -⟩ := C
  intro H locs ls hR hS hL
  exact lv_iload hx hb hd (hL.at hl) (kk H locs ls hR hS hL)
theorem M_iload_n (C : CX κ Y d mc ms) {i : Fin 4} {x : Int} (hd : decode Y.2.1 pc = .ok (.iload_n i, 1)) (hl : L[(i : Nat)]? = some (some (vI x))) (kk : M κ N T (pc + 1) L (vI x :: st) v k n Q) : M κ N T pc L st v k n Q := by
  obtain ⟨p, l, e, R, s, m, args, below, meth, c, b, δ⟩ := κ
  obtain ⟨hx, hb, -⟩ := C
  intro H locs ls hR hS hL
  exact lv_iload_n hx hb hd rfl (hL.at hl) (kk H locs ls hR hS hL)
theorem M_lload (C : CX κ Y d mc ms) {i : Nat} {x : Int} (hd : decode Y.2.1 pc = .ok (.lload i, 2)) (hl : L[i]? = some (some (vJ x))) (kk : M κ N T (pc + 2) L (vJ x :: st) v k n Q) : M κ N T pc L st v k n Q := by
  obtain ⟨p, l, e, R, s, m, args, below, meth, c, b, δ⟩ := κ
  obtain ⟨hx, hb, -⟩ := C
  intro H locs ls hR hS hL
  exact lv_lload hx hb hd (hL.at hl) (kk H locs ls hR hS hL)
theorem M_lload_n (C : CX κ Y d mc ms) {i : Fin 4} {x : Int} (hd : decode Y.2.1 pc = .ok (.lload_n i, 1)) (hl : L[(i : Nat)]? = some (some (vJ x))) (kk : M κ N T (pc + 1) L (vJ x :: st) v k n Q) : M κ N T pc L st v k n Q := by
  obtain ⟨p, l, e, R, s, m, args, below, meth, c, b, δ⟩ := κ
  obtain ⟨hx, hb, -⟩ := C
  intro H locs ls hR hS hL
  exact lv_lload_n hx hb hd rfl (hL.at hl) (kk H locs ls hR hS hL)
theorem M_dload (C : CX κ Y d mc ms) {i : Nat} {x : UInt64} (hd : decode Y.2.1 pc = .ok (.dload i, 2)) (hl : L[i]? = some (some (vD x))) (kk : M κ N T (pc + 2) L (vD x :: st) v k n Q) : M κ N T pc L st v k n Q := by
  obtain ⟨p, l, e, R, s, m, args, below, meth, c, b, δ⟩ := κ
  obtain ⟨hx, hb, -⟩ := C
  intro H locs ls hR hS hL
  exact lv_dload hx hb hd (hL.at hl) (kk H locs ls hR hS hL)
theorem M_dload_n (C : CX κ Y d mc ms) {i : Fin 4} {x : UInt64} (hd : decode Y.2.1 pc = .ok (.dload_n i, 1)) (hl : L[(i : Nat)]? = some (some (vD x))) (kk : M κ N T (pc + 1) L (vD x :: st) v k n Q) : M κ N T pc L st v k n Q := by
  obtain ⟨p, l, e, R, s, m, args, below, meth, c, b, δ⟩ := κ
  obtain ⟨hx, hb, -⟩ := C
  intro H locs ls hR hS hL
  exact lv_dload_n hx hb hd rfl (hL.at hl) (kk H locs ls hR hS hL)
theorem M_aload (C : CX κ Y d mc ms) {i : Nat} {x : Int} (hd : decode Y.2.1 pc = .ok (.aload i, 2)) (hl : L[i]? = some (some (vR x))) (h0 : 0 ≤ x) (kk : M κ N T (pc + 2) L (vR x :: st) v k n Q) : M κ N T pc L st v k n Q := by
  obtain ⟨p, l, e, R, s, m, args, below, meth, c, b, δ⟩ := κ
  obtain ⟨hx, hb, -⟩ := C
  intro H locs ls hR hS hL
  have h1 := hL.at hl
  have h2 := kk H locs ls hR hS hL
  simp only [tv, List.map_cons, rf_pos h0] at h1 h2
  exact lv_aload hx hb hd h1 h2
theorem M_aload_n (C : CX κ Y d mc ms) {i : Fin 4} {x : Int} (hd : decode Y.2.1 pc = .ok (.aload_n i, 1)) (hl : L[(i : Nat)]? = some (some (vR x))) (h0 : 0 ≤ x) (kk : M κ N T (pc + 1) L (vR x :: st) v k n Q) : M κ N T pc L st v k n Q := by
  obtain ⟨p, l, e, R, s, m, args, below, meth, c, b, δ⟩ := κ
  obtain ⟨hx, hb, -⟩ := C
  intro H locs ls hR hS hL
  have h1 := hL.at hl
  have h2 := kk H locs ls hR hS hL
  simp only [tv, List.map_cons, rf_pos h0] at h1 h2
  exact lv_aload_n hx hb hd rfl h1 h2
theorem M_istore (C : CX κ Y d mc ms) {i : Nat} {x : Int} (hd : decode Y.2.1 pc = .ok (.istore i, 2)) (hn : i < Y.2.2.1) (kk : M κ N T (pc + 2) (sL1 L i (vI x)) st v k n Q) : M κ N T pc L (vI x :: st) v k n Q := by
  obtain ⟨p, l, e, R, s, m, args, below, meth, c, b, δ⟩ := κ
  obtain ⟨hx, hb, -, -, -, -, -, -, -, hml, -⟩ := C
  intro H locs ls hR hS hL
  exact lv_istore hx hb hd hL.2 (by rw [hml]; exact hn) rfl (fun ls' h' => kk H locs ls' hR hS (LH.st1 hL.1 h'))
theorem M_istore_n (C : CX κ Y d mc ms) {i : Fin 4} {x : Int} (hd : decode Y.2.1 pc = .ok (.istore_n i, 1)) (hn : (i : Nat) < Y.2.2.1) (kk : M κ N T (pc + 1) (sL1 L i (vI x)) st v k n Q) : M κ N T pc L (vI x :: st) v k n Q := by
  obtain ⟨p, l, e, R, s, m, args, below, meth, c, b, δ⟩ := κ
  obtain ⟨hx, hb, -, -, -, -, -, -, -, hml, -⟩ := C
  intro H locs ls hR hS hL
  exact lv_istore_n hx hb hd rfl hL.2 (by rw [hml]; exact hn) rfl (fun ls' h' => kk H locs ls' hR hS (LH.st1 hL.1 h'))
theorem M_lstore (C : CX κ Y d mc ms) {i : Nat} {x : Int} (hd : decode Y.2.1 pc = .ok (.lstore i, 2)) (hn : i + 1 < Y.2.2.1) (kk : M κ N T (pc + 2) (sL2 L i (vJ x)) st v k n Q) : M κ N T pc L (vJ x :: st) v k n Q := by
  obtain ⟨p, l, e, R, s, m, args, below, meth, c, b, δ⟩ := κ
  obtain ⟨hx, hb, -, -, -, -, -, -, -, hml, -⟩ := C
  intro H locs ls hR hS hL
  exact lv_lstore hx hb hd hL.2 (by rw [hml]; exact hn) rfl (fun ls' h' => kk H locs ls' hR hS (LH.st2 hL.1 h'))
theorem M_lstore_n (C : CX κ Y d mc ms) {i : Fin 4} {x : Int} (hd : decode Y.2.1 pc = .ok (.lstore_n i, 1)) (hn : (i : Nat) + 1 < Y.2.2.1) (kk : M κ N T (pc + 1) (sL2 L i (vJ x)) st v k n Q) : M κ N T pc L (vJ x :: st) v k n Q := by
  obtain ⟨p, l, e, R, s, m, args, below, meth, c, b, δ⟩ := κ
  obtain ⟨hx, hb, -, -, -, -, -, -, -, hml, -⟩ := C
  intro H locs ls hR hS hL
  exact lv_lstore_n hx hb hd rfl hL.2 (by rw [hml]; exact hn) rfl (fun ls' h' => kk H locs ls' hR hS (LH.st2 hL.1 h'))
theorem M_dstore (C : CX κ Y d mc ms) {i : Nat} {x : UInt64} (hd : decode Y.2.1 pc = .ok (.dstore i, 2)) (hn : i + 1 < Y.2.2.1) (kk : M κ N T (pc + 2) (sL2 L i (vD x)) st v k n Q) : M κ N T pc L (vD x :: st) v k n Q := by
  obtain ⟨p, l, e, R, s, m, args, below, meth, c, b, δ⟩ := κ
  obtain ⟨hx, hb, -, -, -, -, -, -, -, hml, -⟩ := C
  intro H locs ls hR hS hL
  exact lv_dstore hx hb hd hL.2 (by rw [hml]; exact hn) rfl (fun ls' h' => kk H locs ls' hR hS (LH.st2 hL.1 h'))
theorem M_dstore_n (C : CX κ Y d mc ms) {i : Fin 4} {x : UInt64} (hd : decode Y.2.1 pc = .ok (.dstore_n i, 1)) (hn : (i : Nat) + 1 < Y.2.2.1) (kk : M κ N T (pc + 1) (sL2 L i (vD x)) st v k n Q) : M κ N T pc L (vD x :: st) v k n Q := by
  obtain ⟨p, l, e, R, s, m, args, below, meth, c, b, δ⟩ := κ
  obtain ⟨hx, hb, -, -, -, -, -, -, -, hml, -⟩ := C
  intro H locs ls hR hS hL
  exact lv_dstore_n hx hb hd rfl hL.2 (by rw [hml]; exact hn) rfl (fun ls' h' => kk H locs ls' hR hS (LH.st2 hL.1 h'))
theorem M_astore (C : CX κ Y d mc ms) {i : Nat} {x : Int} (hd : decode Y.2.1 pc = .ok (.astore i, 2)) (hn : i < Y.2.2.1) (h0 : 0 ≤ x) (kk : M κ N T (pc + 2) (sL1 L i (vR x)) st v k n Q) : M κ N T pc L (vR x :: st) v k n Q := by
  obtain ⟨p, l, e, R, s, m, args, below, meth, c, b, δ⟩ := κ
  obtain ⟨hx, hb, -, -, -, -, -, -, -, hml, -⟩ := C
  intro H locs ls hR hS hL
  simp only [tv, List.map_cons, rf_pos h0]
  exact lv_astore hx hb hd hL.2 (by rw [hml]; exact hn) rfl (fun ls' h' => kk H locs ls' hR hS (LH.st1 hL.1 (by simp only [tv, rf_pos h0]; exact h')))
theorem M_astore_n (C : CX κ Y d mc ms) {i : Fin 4} {x : Int} (hd : decode Y.2.1 pc = .ok (.astore_n i, 1)) (hn : (i : Nat) < Y.2.2.1) (h0 : 0 ≤ x) (kk : M κ N T (pc + 1) (sL1 L i (vR x)) st v k n Q) : M κ N T pc L (vR x :: st) v k n Q := by
  obtain ⟨p, l, e, R, s, m, args, below, meth, c, b, δ⟩ := κ
  obtain ⟨hx, hb, -, -, -, -, -, -, -, hml, -⟩ := C
  intro H locs ls hR hS hL
  simp only [tv, List.map_cons, rf_pos h0]
  exact lv_astore_n hx hb hd rfl hL.2 (by rw [hml]; exact hn) rfl (fun ls' h' => kk H locs ls' hR hS (LH.st1 hL.1 (by simp only [tv, rf_pos h0]; exact h')))
theorem M_iinc (C : CX κ Y d mc ms) {i : Nat} {x z : Int} (hd : decode Y.2.1 pc = .ok (.iinc i z, 3)) (hl : L[i]? = some (some (vI x))) (hn : i < Y.2.2.1) (kk : M κ N T (pc + 3) (sL1 L i (vI (x + z))) st v k n Q) : M κ N T pc L st v k n Q := by
  obtain ⟨p, l, e, R, s, m, args, below, meth, c, b, δ⟩ := κ
  obtain ⟨hx, hb, -, -, -, -, -, -, -, hml, -⟩ := C
  intro H locs ls hR hS hL
  have h1 := lvl_mem (b := b) (i := 0) hl
  rw [Nat.zero_add] at h1
  obtain ⟨j, hj⟩ := List.getElem?_of_mem h1
  exact lv_iinc (k := j) (v := Int32.ofInt (x + z)) hx hb hd hL.2 hj (ofInt_add x z) (by rw [hml]; exact hn) rfl (fun ls' h' => kk H locs ls' hR hS (LH.st1 hL.1 h'))
end ROWS
