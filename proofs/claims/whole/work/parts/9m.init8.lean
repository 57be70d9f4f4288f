/-! the maker of the reference: objects 84 .. 94; the empty disk is the empty row -/
theorem ac_bool : Cond.arrayClass .boolean ∈ GW := GW_t (i := 893) (by decide +kernel) rfl
def B8 (T : Ty) : Ty := (iT (iT (iT (iT (iT (upL (newT (iT (iT (iT (iT T 85 84 0 207) 86 84 1 1242) 87 84 2 414) 88 84 3 207) 89 2 2) 84 4 ((89 : Nat) : Int)) 90 84 6 60) 91 84 9 2) 92 84 10 1024) 93 84 11 10) 94 84 12 24)
theorem c_X8_init {T : Ty} {v : Ct} (hT : T 84 = (13, 0, lkN)) : RunsP mX8_init 1 10 3192 [vR 84] 85 T v 95 (B8 T) (fun r1 v1 => r1 = none ∧ (∀ x, x < 85 → v1 x = v x) ∧ ∀ x, 85 ≤ x → x < 95 → ∀ q, v1 x q = 0) := by
  have h1 := upL_s (i := 84) (j := 0) (x := ((85 : Nat) : Int)) ((newT_o (N := 85) (k := 1) (n := 207) (a := 84) (by decide)).trans hT)
  have h2 := upL_s (i := 84) (j := 1) (x := ((86 : Nat) : Int)) ((newT_o (N := 86) (k := 1) (n := 1242) (a := 84) (by decide)).trans h1)
  have h3 := upL_s (i := 84) (j := 2) (x := ((87 : Nat) : Int)) ((newT_o (N := 87) (k := 1) (n := 414) (a := 84) (by decide)).trans h2)
  have h4 := upL_s (i := 84) (j := 3) (x := ((88 : Nat) : Int)) ((newT_o (N := 88) (k := 1) (n := 207) (a := 84) (by decide)).trans h3)
  have h5 := upL_s (i := 84) (j := 4) (x := ((89 : Nat) : Int)) ((newT_o (N := 89) (k := 2) (n := 2) (a := 84) (by decide)).trans h4)
  have h6 := upL_s (i := 84) (j := 6) (x := ((90 : Nat) : Int)) ((newT_o (N := 90) (k := 1) (n := 60) (a := 84) (by decide)).trans h5)
  have h7 := upL_s (i := 84) (j := 9) (x := ((91 : Nat) : Int)) ((newT_o (N := 91) (k := 1) (n := 2) (a := 84) (by decide)).trans h6)
  have h8 := upL_s (i := 84) (j := 10) (x := ((92 : Nat) : Int)) ((newT_o (N := 92) (k := 1) (n := 1024) (a := 84) (by decide)).trans h7)
  have h9 := upL_s (i := 84) (j := 11) (x := ((93 : Nat) : Int)) ((newT_o (N := 93) (k := 1) (n := 10) (a := 84) (by decide)).trans h8)
  have h10 := upL_s (i := 84) (j := 12) (x := ((94 : Nat) : Int)) ((newT_o (N := 94) (k := 1) (n := 24) (a := 84) (by decide)).trans h9)
  refine RunsP.of (by decide) (Nat.le_of_ble_eq_true rfl) fun κ C => ?_
  refine M_aload_n (pc := 0) C dX8_init_0 rfl (by decide) ?_
  refine M_objInit (pc := 1) C (by decide) (GW_t (i := 849) (by decide +kernel) rfl) oi_i oi_c (by decide) (Nat.le_of_ble_eq_true rfl) dX8_init_1 ?_
  refine M_aload_n (pc := 4) C dX8_init_4 rfl (by decide) ?_
  refine M_sipush (pc := 5) C (by decide) dX8_init_5 ?_
  refine M_newI (pc := 8) C ac_int (by decide) ⟨by decide, by decide⟩ dX8_init_8 ?_
  refine A_putF (pc := 10) C (a := 84) (g := 85) fl_X8_7 rfl rfl ⟨rfl, rfl, _, rfl, fun a => ⟨rfl, rfl⟩⟩ (GW_t (i := 850) (by decide +kernel) rfl) rfl rfl rfl ((newT_o (by decide)).trans hT) dX8_init_10 ?_
  refine M_aload_n (pc := 13) C dX8_init_13 rfl (by decide) ?_
  refine M_sipush (pc := 14) C (by decide) dX8_init_14 ?_
  refine M_newI (pc := 17) C ac_int (by decide) ⟨by decide, by decide⟩ dX8_init_17 ?_
  refine A_putF (pc := 19) C (a := 84) (g := 86) fl_X8_13 rfl rfl ⟨rfl, rfl, _, rfl, fun a => ⟨rfl, rfl⟩⟩ (GW_t (i := 851) (by decide +kernel) rfl) rfl rfl rfl ((newT_o (by decide)).trans h1) dX8_init_19 ?_
  refine M_aload_n (pc := 22) C dX8_init_22 rfl (by decide) ?_
  refine M_sipush (pc := 23) C (by decide) dX8_init_23 ?_
  refine M_newI (pc := 26) C ac_int (by decide) ⟨by decide, by decide⟩ dX8_init_26 ?_
  refine A_putF (pc := 28) C (a := 84) (g := 87) fl_X8_16 rfl rfl ⟨rfl, rfl, _, rfl, fun a => ⟨rfl, rfl⟩⟩ (GW_t (i := 852) (by decide +kernel) rfl) rfl rfl rfl ((newT_o (by decide)).trans h2) dX8_init_28 ?_
  refine M_aload_n (pc := 31) C dX8_init_31 rfl (by decide) ?_
  refine M_sipush (pc := 32) C (by decide) dX8_init_32 ?_
  refine M_newI (pc := 35) C ac_int (by decide) ⟨by decide, by decide⟩ dX8_init_35 ?_
  refine A_putF (pc := 37) C (a := 84) (g := 88) fl_X8_19 rfl rfl ⟨rfl, rfl, _, rfl, fun a => ⟨rfl, rfl⟩⟩ (GW_t (i := 853) (by decide +kernel) rfl) rfl rfl rfl ((newT_o (by decide)).trans h3) dX8_init_37 ?_
  refine M_aload_n (pc := 40) C dX8_init_40 rfl (by decide) ?_
  refine M_iconst (pc := 41) C dX8_init_41 ?_
  refine M_newZ (pc := 42) C ac_bool (by decide) ⟨by decide, by decide⟩ dX8_init_42 ?_
  refine A_putF (pc := 44) C (a := 84) (g := 89) fl_X8_22 rfl rfl ⟨rfl, rfl, _, rfl, fun a => ⟨rfl, rfl⟩⟩ (GW_t (i := 854) (by decide +kernel) rfl) rfl rfl rfl ((newT_o (by decide)).trans h4) dX8_init_44 ?_
  refine M_aload_n (pc := 47) C dX8_init_47 rfl (by decide) ?_
  refine M_bipush (pc := 48) C (by decide) dX8_init_48 ?_
  refine M_newI (pc := 50) C ac_int (by decide) ⟨by decide, by decide⟩ dX8_init_50 ?_
  refine A_putF (pc := 52) C (a := 84) (g := 90) fl_X8_26 rfl rfl ⟨rfl, rfl, _, rfl, fun a => ⟨rfl, rfl⟩⟩ (GW_t (i := 856) (by decide +kernel) rfl) rfl rfl rfl ((newT_o (by decide)).trans h5) dX8_init_52 ?_
  refine M_aload_n (pc := 55) C dX8_init_55 rfl (by decide) ?_
  refine M_iconst (pc := 56) C dX8_init_56 ?_
  refine M_newI (pc := 57) C ac_int (by decide) ⟨by decide, by decide⟩ dX8_init_57 ?_
  refine A_putF (pc := 59) C (a := 84) (g := 91) fl_X8_29 rfl rfl ⟨rfl, rfl, _, rfl, fun a => ⟨rfl, rfl⟩⟩ (GW_t (i := 859) (by decide +kernel) rfl) rfl rfl rfl ((newT_o (by decide)).trans h6) dX8_init_59 ?_
  refine M_aload_n (pc := 62) C dX8_init_62 rfl (by decide) ?_
  refine M_sipush (pc := 63) C (by decide) dX8_init_63 ?_
  refine M_newI (pc := 66) C ac_int (by decide) ⟨by decide, by decide⟩ dX8_init_66 ?_
  refine A_putF (pc := 68) C (a := 84) (g := 92) fl_X8_32 rfl rfl ⟨rfl, rfl, _, rfl, fun a => ⟨rfl, rfl⟩⟩ (GW_t (i := 860) (by decide +kernel) rfl) rfl rfl rfl ((newT_o (by decide)).trans h7) dX8_init_68 ?_
  refine M_aload_n (pc := 71) C dX8_init_71 rfl (by decide) ?_
  refine M_bipush (pc := 72) C (by decide) dX8_init_72 ?_
  refine M_newI (pc := 74) C ac_int (by decide) ⟨by decide, by decide⟩ dX8_init_74 ?_
  refine A_putF (pc := 76) C (a := 84) (g := 93) fl_X8_35 rfl rfl ⟨rfl, rfl, _, rfl, fun a => ⟨rfl, rfl⟩⟩ (GW_t (i := 861) (by decide +kernel) rfl) rfl rfl rfl ((newT_o (by decide)).trans h8) dX8_init_76 ?_
  refine M_aload_n (pc := 79) C dX8_init_79 rfl (by decide) ?_
  refine M_bipush (pc := 80) C (by decide) dX8_init_80 ?_
  refine M_newI (pc := 82) C ac_int (by decide) ⟨by decide, by decide⟩ dX8_init_82 ?_
  refine A_putF (pc := 84) C (a := 84) (g := 94) fl_X8_38 rfl rfl ⟨rfl, rfl, _, rfl, fun a => ⟨rfl, rfl⟩⟩ (GW_t (i := 862) (by decide +kernel) rfl) rfl rfl rfl ((newT_o (by decide)).trans h9) dX8_init_84 ?_
  refine M_vretP (pc := 87) C rfl dX8_init_87 ⟨rfl, fun x hx => ?_, fun x h1 h2 q => ?_⟩ rfl
  · rw [newV_o (by omega), newV_o (by omega), newV_o (by omega), newV_o (by omega), newV_o (by omega), newV_o (by omega), newV_o (by omega), newV_o (by omega), newV_o (by omega), newV_o (by omega)]
  · rcases (show x = 85 ∨ x = 86 ∨ x = 87 ∨ x = 88 ∨ x = 89 ∨ x = 90 ∨ x = 91 ∨ x = 92 ∨ x = 93 ∨ x = 94 by omega) with rfl | rfl | rfl | rfl | rfl | rfl | rfl | rfl | rfl | rfl
    · rw [newV_o (by decide), newV_o (by decide), newV_o (by decide), newV_o (by decide), newV_o (by decide), newV_o (by decide), newV_o (by decide), newV_o (by decide), newV_o (by decide), newV_n]
    · rw [newV_o (by decide), newV_o (by decide), newV_o (by decide), newV_o (by decide), newV_o (by decide), newV_o (by decide), newV_o (by decide), newV_o (by decide), newV_n]
    · rw [newV_o (by decide), newV_o (by decide), newV_o (by decide), newV_o (by decide), newV_o (by decide), newV_o (by decide), newV_o (by decide), newV_n]
    · rw [newV_o (by decide), newV_o (by decide), newV_o (by decide), newV_o (by decide), newV_o (by decide), newV_o (by decide), newV_n]
    · rw [newV_o (by decide), newV_o (by decide), newV_o (by decide), newV_o (by decide), newV_o (by decide), newV_n]
    · rw [newV_o (by decide), newV_o (by decide), newV_o (by decide), newV_o (by decide), newV_n]
    · rw [newV_o (by decide), newV_o (by decide), newV_o (by decide), newV_n]
    · rw [newV_o (by decide), newV_o (by decide), newV_n]
    · rw [newV_o (by decide), newV_n]
    · rw [newV_n]
theorem DR.empty {K O Rk Z B S W P r : Nat → Int} (hr : ∀ x, x < 207 → r x = 0) (h24 : ∀ q, q < 24 → K q = 0 ∧ O q = -1 ∧ Rk q = 0) (h10 : ∀ q, q < 10 → Z q = -1 ∧ B q = -1 ∧ S q = -1 ∧ W q = 0 ∧ P q = 0) : DR K O Rk Z B S W P r := by
  refine ⟨fun f hf => ?_, fun b hb => ?_, fun f hf k hk => ?_, fun f g hf hg _ _ hB => ?_⟩
  · obtain ⟨z1, z2, z3, z4, z5⟩ := h10 f hf
    have hro : ∀ w, w < 18 → ro r f w = 0 := fun w hw => hr _ (by omega)
    exact Or.inl ⟨hro 0 (by decide), hro, z1, z2, z3, z4, z5⟩
  · obtain ⟨z1, z2, z3⟩ := h24 b hb
    have hk := hr (3 + b) (by omega)
    refine ⟨by omega, Or.inl z1, Or.inl z2, fun q => absurd z2 q, fun q => by omega, fun q => by omega, fun f hf hB => ?_, fun q => by omega⟩
    have := (h10 f hf).2.1
    omega
  · have := (h10 f hf).1
    omega
  · exact absurd (h10 f hf).2.1 hB
theorem DV.empty {v : Ct} {a : Nat} {r : Nat → Int} (hr : ∀ x, x < 207 → r x = 0) (h0 : v a 8 = 0 ∧ v a 9 = 0 ∧ v a 10 = 0) (h24 : ∀ q, q < 24 → v (a + 1) q = 0 ∧ v (a + 2) q = -1 ∧ v (a + 3) q = 0) (h10 : ∀ q, q < 10 → v (a + 4) q = -1 ∧ v (a + 5) q = -1 ∧ v (a + 6) q = -1 ∧ v (a + 7) q = 0 ∧ v (a + 8) q = 0) : DV v a r 0 := by
  have e0 := hr 0 (by decide)
  have e1 := hr 1 (by decide)
  have e2 := hr 2 (by decide)
  refine ⟨DR.empty hr h24 h10, ?_⟩
  unfold CNT
  refine ⟨by omega, by omega, by omega, Or.inl e2, by omega, by omega, fun f hf => ?_⟩
  have := (h10 f hf).2.2.2.2
  omega
