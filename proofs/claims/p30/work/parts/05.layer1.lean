-- the words that every method may use
def GW : List Cond := lw_tbl.filter goodWord
theorem GW_good : ∀ w ∈ GW, goodWord w = true := fun w h => (List.mem_filter.mp h).2
theorem GW_in {w : Cond} (h : w ∈ lw_tbl) (g : goodWord w = true) : w ∈ GW := List.mem_filter.mpr ⟨h, g⟩
theorem GW_t {w : Cond} {i : Nat} (h : tables_1[i]? = some w) (g : goodWord w = true) : w ∈ GW := GW_in (List.mem_append_right _ (List.mem_of_getElem? h)) g
theorem GW_p {w : Cond} {i : Nat} (h : (k2_sels lw_privs)[i]? = some w) (g : goodWord w = true) : w ∈ GW := GW_in (List.mem_append_left _ (List.mem_of_getElem? h)) g
-- values
abbrev MV : Type := Int ⊕ (Int ⊕ (UInt64 ⊕ Int))
abbrev vI (x : Int) : MV := .inl x
abbrev vJ (x : Int) : MV := .inr (.inl x)
abbrev vD (x : UInt64) : MV := .inr (.inr (.inl x))
abbrev vR (x : Int) : MV := .inr (.inr (.inr x))
def rf (b : Nat) (i : Int) : Value := if i < 0 then (if i = -1 then .null else .ref (-(i + 2)).toNat) else .ref (b + i.toNat)
def tv (b : Nat) : MV → Value
  | .inl x => .int (Int32.ofInt x)
  | .inr (.inl x) => .long (Int64.ofInt x)
  | .inr (.inr (.inl x)) => .double x
  | .inr (.inr (.inr i)) => rf b i
theorem rf_pos {b : Nat} {i : Int} (h : 0 ≤ i) : rf b i = .ref (b + i.toNat) := by
  unfold rf
  rw [if_neg (by omega)]
theorem rf_neg {b : Nat} {i : Int} (h : i = -1) : rf b i = .null := by
  unfold rf
  rw [if_pos (by omega), if_pos h]
/-- a cell that was there before: its address q, as the number -q - 2 -/
theorem rf_arr {b q : Nat} {i : Int} (h : i = -(q : Int) - 2) : rf b i = .ref q := by
  unfold rf
  rw [if_pos (by omega), if_neg (by omega), show (-(i + 2)).toNat = q by omega]
def mc2 : MV → Bool
  | .inr (.inl _) => true
  | .inr (.inr (.inl _)) => true
  | _ => false
theorem tv_cat (b : Nat) (x : MV) : (tv b x).category = if mc2 x = true then 2 else 1 := by
  rcases x with x | x | x | x
  · rfl
  · rfl
  · rfl
  · show (rf b x).category = 1
    unfold rf
    repeat' split
    all_goals rfl
-- locals
def lvl (b : Nat) : Nat → List (Option MV) → List (Nat × Value)
  | _, [] => []
  | i, none :: t => lvl b (i + 1) t
  | i, some x :: t => (i, tv b x) :: lvl b (i + 1) t
theorem lvl_mem {b : Nat} {L : List (Option MV)} : ∀ {i j : Nat} {x : MV}, L[j]? = some (some x) → (i + j, tv b x) ∈ lvl b i L := by
  induction L with
  | nil => intro i j x h; simp at h
  | cons a t ih =>
    intro i j x h
    cases j with
    | zero =>
      simp only [List.getElem?_cons_zero, Option.some.injEq] at h
      subst h
      exact List.mem_cons_self
    | succ j =>
      simp only [List.getElem?_cons_succ] at h
      have h2 := ih (i := i + 1) h
      rw [show i + 1 + j = i + (j + 1) by omega] at h2
      cases a with
      | none => exact h2
      | some a => exact List.mem_cons_of_mem _ h2
theorem lvl_of {b : Nat} {L : List (Option MV)} : ∀ {i : Nat} {q : Nat × Value}, q ∈ lvl b i L → ∃ j x, L[j]? = some (some x) ∧ q = (i + j, tv b x) := by
  induction L with
  | nil => intro i q h; cases h
  | cons a t ih =>
    intro i q h
    cases a with
    | none =>
      obtain ⟨j, x, h1, h2⟩ := ih (i := i + 1) h
      exact ⟨j + 1, x, by simpa using h1, by rw [h2]; congr 1; omega⟩
    | some a =>
      rcases List.mem_cons.mp h with h | h
      · exact ⟨0, a, rfl, h⟩
      · obtain ⟨j, x, h1, h2⟩ := ih (i := i + 1) h
        exact ⟨j + 1, x, by simpa using h1, by rw [h2]; congr 1; omega⟩
def LH (b : Nat) (ls : Array Slot) (n : Nat) (L : List (Option MV)) : Prop := L.length = n ∧ lv_has ls n (lvl b 0 L)
theorem LH.at {b : Nat} {ls : Array Slot} {n : Nat} {L : List (Option MV)} (h : LH b ls n L) {i : Nat} {x : MV} (hi : L[i]? = some (some x)) : ls[i]? = some (.val (tv b x)) := by
  have h1 := h.2.2.2 _ (lvl_mem (b := b) (i := 0) hi)
  simpa using h1
theorem LH.of {b : Nat} {ls : Array Slot} {n : Nat} {L : List (Option MV)} {lv : List (Nat × Value)} (hn : L.length = n) (h : lv_has ls n lv) (hs : ∀ j x, L[j]? = some (some x) → (j, tv b x) ∈ lv) : LH b ls n L := by
  refine ⟨hn, h.1, h.2.1, fun q hq => ?_⟩
  obtain ⟨j, x, h1, h2⟩ := lvl_of hq
  rw [h2]
  have h3 := h.2.2 _ (hs j x h1)
  simpa using h3
def oc2 : Option MV → Bool
  | some x => mc2 x
  | none => false
def un (L : List (Option MV)) (i : Nat) : List (Option MV) := match i with
  | 0 => L
  | k + 1 => if oc2 (L.getD k none) = true then L.set k none else L
def sL1 (L : List (Option MV)) (i : Nat) (x : MV) : List (Option MV) := (un L i).set i (some x)
def sL2 (L : List (Option MV)) (i : Nat) (x : MV) : List (Option MV) := ((un L i).set i (some x)).set (i + 1) none
theorem un_len (L : List (Option MV)) (i : Nat) : (un L i).length = L.length := by
  unfold un
  split
  · rfl
  · split
    · simp
    · rfl
theorem un_at {L : List (Option MV)} {i j : Nat} {y : MV} (h : (un L i)[j]? = some (some y)) : L[j]? = some (some y) ∧ (j + 1 = i → mc2 y = false) := by
  unfold un at h
  split at h
  · exact ⟨h, fun e => by omega⟩
  · rename_i k
    split at h
    · rename_i hc
      by_cases hj : j = k
      · subst hj
        rw [List.getElem?_set_self' ] at h
        cases hl : L[j]? with
        | none => rw [hl] at h; cases h
        | some z => rw [hl] at h; cases h
      · rw [List.getElem?_set_ne (fun e => hj e.symm)] at h
        exact ⟨h, fun e => absurd (by omega) hj⟩
    · rename_i hc
      refine ⟨h, fun e => ?_⟩
      have e2 : j = k := by omega
      subst e2
      rw [List.getD_eq_getElem?_getD, h] at hc
      simpa [oc2] using hc
theorem LH.st1 {b : Nat} {ls : Array Slot} {n : Nat} {L : List (Option MV)} {i : Nat} {x : MV} (hn : L.length = n)
    (h : lv_has ls n ((i, tv b x) :: (lvl b 0 L).filter (fun q => !(q.1 == i) && !(q.1 + 1 == i && q.2.category == 2)))) : LH b ls n (sL1 L i x) := by
  refine LH.of (by unfold sL1; rw [List.length_set, un_len]; exact hn) h fun j y hy => ?_
  unfold sL1 at hy
  by_cases hj : j = i
  · subst hj
    rw [List.getElem?_set_self'] at hy
    cases hl : (un L j)[j]? with
    | none => rw [hl] at hy; cases hy
    | some z => rw [hl] at hy; cases hy; exact List.mem_cons_self
  · rw [List.getElem?_set_ne (fun e => hj e.symm)] at hy
    obtain ⟨h1, h2⟩ := un_at hy
    refine List.mem_cons_of_mem _ (List.mem_filter.mpr ⟨by simpa using lvl_mem (b := b) (i := 0) h1, ?_⟩)
    by_cases e : j + 1 = i
    · have h3 := tv_cat b y
      rw [h2 e] at h3
      simp [hj, h3]
    · simp [hj, e]
theorem LH.st2 {b : Nat} {ls : Array Slot} {n : Nat} {L : List (Option MV)} {i : Nat} {x : MV} (hn : L.length = n)
    (h : lv_has ls n ((i, tv b x) :: (lvl b 0 L).filter (fun q => !(q.1 == i) && (!(q.1 == i + 1) && !(q.1 + 1 == i && q.2.category == 2))))) : LH b ls n (sL2 L i x) := by
  refine LH.of (by unfold sL2; rw [List.length_set, List.length_set, un_len]; exact hn) h fun j y hy => ?_
  unfold sL2 at hy
  by_cases hj1 : j = i + 1
  · subst hj1
    rw [List.getElem?_set_self'] at hy
    cases hl : ((un L i).set i (some x))[i + 1]? with
    | none => rw [hl] at hy; cases hy
    | some z => rw [hl] at hy; cases hy
  · rw [List.getElem?_set_ne (fun e => hj1 e.symm)] at hy
    by_cases hj : j = i
    · subst hj
      rw [List.getElem?_set_self'] at hy
      cases hl : (un L j)[j]? with
      | none => rw [hl] at hy; cases hy
      | some z => rw [hl] at hy; cases hy; exact List.mem_cons_self
    · rw [List.getElem?_set_ne (fun e => hj e.symm)] at hy
      obtain ⟨h1, h2⟩ := un_at hy
      refine List.mem_cons_of_mem _ (List.mem_filter.mpr ⟨by simpa using lvl_mem (b := b) (i := 0) h1, ?_⟩)
      by_cases e : j + 1 = i
      · have h3 := tv_cat b y
        rw [h2 e] at h3
        simp [hj, hj1, h3]
      · simp [hj, hj1, e]
-- a method's first locals
def entL : List MV → List (Option MV)
  | [] => []
  | x :: t => if mc2 x = true then some x :: none :: entL t else some x :: entL t
theorem entL_in {b : Nat} {as : List MV} : ∀ {i j : Nat} {x : MV}, (entL as)[j]? = some (some x) → (i + j, tv b x) ∈ lv_args i (as.map (tv b)) := by
  induction as with
  | nil => intro i j x h; simp [entL] at h
  | cons a t ih =>
    intro i j x h
    unfold entL at h
    rw [List.map_cons]
    unfold lv_args
    rw [tv_cat]
    split at h
    · rename_i hc
      rw [hc]
      match j, h with
      | 0, h => cases h; exact List.mem_cons_self
      | 1, h => simp at h
      | j + 2, h =>
        have h2 := ih (i := i + 2) (j := j) (x := x) (by simpa using h)
        refine List.mem_cons_of_mem _ ?_
        rw [show i + (j + 2) = i + 2 + j by omega]
        simpa using h2
    · rename_i hc
      match j, h with
      | 0, h => cases h; exact List.mem_cons_self
      | j + 1, h =>
        have h2 := ih (i := i + 1) (j := j) (x := x) (by simpa using h)
        refine List.mem_cons_of_mem _ ?_
        rw [show i + (j + 1) = i + 1 + j by omega]
        simpa [hc] using h2
theorem entL_len (b : Nat) (as : List MV) : (lg_sl (as.map (tv b))).length = (entL as).length := by
  induction as with
  | nil => rfl
  | cons a t ih =>
    rw [List.map_cons]
    unfold entL
    have h : lg_sl (tv b a :: List.map (tv b) t) = (if (tv b a).category = 2 then [Slot.val (tv b a), .second] else [.val (tv b a)]) ++ lg_sl (List.map (tv b) t) := by simp [lg_sl]
    rw [h, List.length_append, ih, tv_cat]
    split <;> simp_all <;> omega
def ent (as : List MV) (n : Nat) : List (Option MV) := entL as ++ List.replicate (n - (entL as).length) none
theorem LH.entry {b : Nat} {as : List MV} {n : Nat} (h : (entL as).length ≤ n) : LH b ((lg_sl (as.map (tv b)) ++ List.replicate (n - (lg_sl (as.map (tv b))).length) Slot.unset).toArray) n (ent as n) := by
  refine LH.of (by unfold ent; rw [List.length_append, List.length_replicate]; omega) (lv_entry (as.map (tv b)) (n := n) (by rw [entL_len]; exact h)) fun j x hj => ?_
  unfold ent at hj
  by_cases hl : j < (entL as).length
  · rw [List.getElem?_append_left hl] at hj
    simpa using entL_in (b := b) (i := 0) hj
  · rw [List.getElem?_append_right (by omega), List.getElem?_replicate] at hj
    split at hj
    · cases hj
    · cases hj
