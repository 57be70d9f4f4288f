theorem newT_o {T : Ty} {N k n a : Nat} (h : a ≠ N) : newT T N k n a = T a := if_neg h
theorem newT_n {T : Ty} {N k n : Nat} : newT T N k n N = (k, n, fun _ => -1) := if_pos rfl
theorem upL_o {T : Ty} {i j a : Nat} {x : Int} (h : a ≠ i) : upL T i j x a = T a := if_neg h
theorem upL_s {T : Ty} {i j : Nat} {x : Int} {k n : Nat} {lk : Nat → Int} (h : T i = (k, n, lk)) : upL T i j x i = (k, n, fun q => if q = j then x else lk q) := by
  unfold upL
  rw [if_pos rfl, h]
theorem newV_o {v : Ct} {N a : Nat} {z : Int} (h : a ≠ N) : newV v N z a = v a := if_neg h
theorem newV_n {v : Ct} {N : Nat} {z : Int} : newV v N z N = fun _ => z := if_pos rfl
theorem ac_int : Cond.arrayClass .int ∈ GW := GW_t (i := 69) (by decide +kernel) rfl
theorem oi_i : Cond.instanceMethod Lib.objectInit ∈ GW := GW_t (i := 23) (by decide +kernel) rfl
theorem oi_c : Cond.code Lib.objectInit ⟨#[0xb1]⟩ 1 none ∈ GW := GW_t (i := 24) (by decide +kernel) rfl
section INI
variable {κ : KX} {Y : MD} {d mc ms N : Nat} {T : Ty} {pc : Nat} {L : List (Option MV)} {st : List MV} {v : Ct} {k n : Nat} {Q : State → Prop}
theorem A_putF (C : CX κ Y d mc ms) {idx c kf n0 a g : Nat} {lk : Nat → Int} {i x : Int} (F : FL Y.1.cls idx c kf) (hf : fldI c kf = false) {Cn : String} {Tt : u_T} {Nn : Nat} (hvw : vwCl[c]? = some (Cn, Tt, Nn))
    (ho : Cn = Y.1.cls ∧ (Tt kf).2.2.2 = true ∧ ∃ ty, parseFieldDescriptor (Tt kf).2.2.1 = some ty ∧ ∀ a, narrow ty (.ref a) = .ref a ∧ fits ty (.ref a) = true) (hlk : Cond.fieldLink Y.1.cls idx Cn (Tt kf).2.1 (Tt kf).2.2.1 ∈ GW) (hin2 : Y.1.name = "<init>")
    (hi : i = (a : Int)) (hx : x = (g : Int)) (hT : T a = (c + 5, n0, lk)) (hd : decode Y.2.1 pc = .ok (.putfield idx, 3)) (kk : M κ N (upL T a kf ((g : Nat) : Int)) (pc + 3) L st v k n Q) : M κ N T pc L (vR x :: vR i :: st) v k n Q := by
  subst hi hx
  have hs : ∀ {C : String} {Tt2 : u_T} {Nn2 : Nat}, vwCl[c]? = some (C, Tt2, Nn2) → C = Cn ∧ Tt2 = Tt := fun h => by
    have := Option.some.inj (h.symm.trans hvw)
    cases this
    exact ⟨rfl, rfl⟩
  refine M_putF C F hf (fun C2 Tt2 Nn2 h => ?_) (fun C2 Tt2 Nn2 h => ?_) hin2 (Int.natCast_nonneg a) (Int.natCast_nonneg g) (by rw [Int.toNat_natCast]; exact hT) hd (by rw [Int.toNat_natCast]; exact kk)
  · obtain ⟨e1, e2⟩ := hs h
    rw [e1, e2]
    exact ho
  · obtain ⟨e1, e2⟩ := hs h
    rw [e1, e2]
    exact hlk
end INI
theorem c_X6_init {N : Nat} {T : Ty} {v : Ct} {a : Nat} {lk : Nat → Int} (hT : T a = (11, 0, lk)) (ha : a < N) : Runs mX6_init 1 1 60 [vR ((a : Nat) : Int)] N T v none (N + 1) (upL (newT T N 1 60) a 0 ((N : Nat) : Int)) (up (newV v N 0) a 1 0) := by
  refine Runs.of (by decide) (Nat.le_of_ble_eq_true rfl) fun κ C => ?_
  refine M_aload_n (pc := 0) C dX6_init_0 rfl (by omega) ?_
  refine M_objInit (pc := 1) C (by omega) (GW_t (i := 91) (by decide +kernel) rfl) oi_i oi_c (by decide) (Nat.le_of_ble_eq_true rfl) dX6_init_1 ?_
  refine M_aload_n (pc := 4) C dX6_init_4 rfl (by omega) ?_
  refine M_bipush (pc := 5) C (by decide) dX6_init_5 ?_
  refine M_newI (pc := 7) C ac_int (by decide) ⟨by decide, by decide⟩ dX6_init_7 ?_
  refine A_putF (pc := 9) C (a := a) (g := N) fl_X6_9 rfl rfl ⟨rfl, rfl, _, rfl, fun a => ⟨rfl, rfl⟩⟩ (GW_t (i := 92) (by decide +kernel) rfl) rfl rfl rfl ((newT_o (by omega)).trans hT) dX6_init_9 ?_
  refine M_aload_n (pc := 12) C dX6_init_12 rfl (by omega) ?_
  refine M_iconst (pc := 13) C dX6_init_13 ?_
  refine A_putI (pc := 14) C fl_X6_15 rfl (by decide) (a := a) rfl (upL_s ((newT_o (by omega)).trans hT)) (by omega) dX6_init_14 ?_
  exact M_vret (pc := 17) C rfl dX6_init_17 rfl rfl
