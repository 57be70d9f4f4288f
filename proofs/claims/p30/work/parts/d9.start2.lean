/-! the law: its start and its end -/
theorem fin_law {p : Program} {l : Launch} {e : Env} {s : State} {m : MethodId} {below : List Frame} {meth : Method} {c : Code} {q : Nat} {δ : DL} {nm : String} {d N k n : Nat} {T : Ty} {v : Ct} {L : List (Option MV)} (C : CX (p, l, e, room_1, s, m, #[Value.ref q], below, meth, c, s.heap.size, δ) (mLn nm) d 600172 7300668) (hk : k ≤ 600172) (hn : n ≤ 7300668) : M (p, l, e, room_1, s, m, #[Value.ref q], below, meth, c, s.heap.size, δ) N T 501 L [vI 1] v k n (lw_Z below #[Value.ref q] s) := by
  refine M.widen hk hn ?_
  obtain ⟨hx, hb, hown, hts, hKK, hEX, hlocks, hnm, hret, -⟩ := C
  intro H locs ls hR hS hL T0 hT X
  have X2 : Stand p l e room_1 s m #[Value.ref q] below meth c T0 [] 600172 7300668 := { X with same := ⟨X.same.1, X.same.2.1, X.same.2.2.1, X.same.2.2.2.1, X.same.2.2.2.2.1, fun a c9 hc => by
    obtain ⟨c', h1, h2, h3, h4⟩ := X.same.2.2.2.2.2 a c9 hc
    refine ⟨c', h1, h2, h3, fun j _ => h4 j (fun hm => ?_)⟩
    have h5 : s.heap.size ≤ a := hS.2.2 _ hm
    have h6 : a < s.heap.size := (Array.getElem?_eq_some_iff.mp hc).1
    exact absurd h6 (Nat.not_lt_of_le h5)⟩ }
  exact lw_ret hx hb hret hlocks (pc := 501) dL_law_501 T0 hT X2
theorem start_PI {v1 : Ct} {T : Ty} (p1 : (v1 1 8 = 0 ∧ v1 1 9 = 0 ∧ v1 1 10 = 0) ∧ (∀ q, q < 24 → v1 2 q = 0 ∧ v1 3 q = -1 ∧ v1 4 q = 0) ∧ (∀ q, q < 10 → v1 5 q = -1 ∧ v1 6 q = -1 ∧ v1 7 q = -1 ∧ v1 8 q = 0 ∧ v1 9 q = 0) ∧ v1 10 1 = 0 ∧ (∀ q, q < 6 → v1 11 q = ((12 + 9 * q : Nat) : Int)) ∧ (∀ q, v1 66 q = -1) ∧ v1 67 1 = 0 ∧ v1 68 = fun _ => 0) (hT : TT T) : PI 84 T v1 0 0 := by
  obtain ⟨a1, a2, a3, a4, a5, -⟩ := p1
  refine ⟨hT, Nat.le_refl _, fun _ => 0, fun _ => 0, 0, DV.empty (fun _ _ => rfl) a1 a2 a3, ⟨a4, by decide, fun q hq => ⟨12 + 9 * q, ?_, a5 q hq⟩, fun p q hp hq e => ?_, fun j hj => absurd hj (Nat.not_lt_zero _)⟩, ⟨⟨by decide, by decide⟩, fun f hf => ?_⟩, fun g hg a _ => absurd a (by show ¬ (0 : Int) = 1; decide)⟩
  · unfold hst
    omega
  · rw [a5 p hp, a5 q hq] at e
    omega
  · show (0 : Int) / 2 ^ f % 2 = 0
    rw [Int.zero_ediv]
    rfl
theorem hdv_7 : ∀ j, j < 7 → (if fldI 7 j = true then parseFieldDescriptor (TX7 j).2.2.1 = some .int else ∃ ty, parseFieldDescriptor (TX7 j).2.2.1 = some ty ∧ defaultValue ty = .null) := fun j hj => by
  rcases (show j = 0 ∨ j = 1 ∨ j = 2 ∨ j = 3 ∨ j = 4 ∨ j = 5 ∨ j = 6 by omega) with rfl | rfl | rfl | rfl | rfl | rfl | rfl
  all_goals first | (rw [if_neg (by decide)]; exact ⟨_, rfl, rfl⟩) | (rw [if_pos (by decide)]; rfl)
theorem whole_start {p : Program} {e : Env} {s : State} {m : MethodId} {below : List Frame} {meth : Method} {c : Code} (l : Launch) (hflags : l.flags = flags0) {b L : Nat} {xs : Nat → Int32} (hL : L ≤ 260) (C0 : lw_At p s m meth c b L xs) : W p l e room_1 s m #[Value.ref b] below meth c s.heap [] 0 0 (lw_Z below #[Value.ref b] s) (entryFrame m ([Value.ref b] : List Value).toArray 12) := by
  obtain ⟨hx, hb, hret, hml, hown, hts, hX, hbl, hlocks, hgv⟩ := C0
  obtain ⟨δ, hKK⟩ := kk_start hts
  have hEX := ex_start hts hKK hgv
  have C : CX (p, l, e, room_1, s, m, #[Value.ref b], below, meth, c, s.heap.size, δ) (mLn meth.name) 60 600172 7300668 := ⟨hx, hb, hown, fun w hw => hts w (List.mem_filter.mp hw).1, hKK, hEX, hlocks, rfl, hret, hml, noTrace hflags, Nat.le_refl _, by decide, by decide, Nat.le_refl _, Nat.le_refl _⟩
  have hX2 : AXk (p, l, e, room_1, s, m, #[Value.ref b], below, meth, c, s.heap.size, δ) b L xs := ⟨hbl, hbl, hX⟩
  have hM : M (p, l, e, room_1, s, m, #[Value.ref b], below, meth, c, s.heap.size, δ) 0 (fun _ => (0, 0, lkN)) 0 (ent [vR (-(b : Int) - 2)] 12) [] (fun _ _ => 0) 0 0 (lw_Z below #[Value.ref b] s) := by
    refine M_new (pc := 0) C cf_7 (show Cond.classLink RL 16 RX7 ∈ GW from GW_in (by decide +kernel) rfl) (GW_in (by decide +kernel) rfl) (GW_in (by decide +kernel) rfl) ⟨by decide, by decide⟩ hdv_7 dL_law_0 ?_
    refine M_dup (pc := 3) C rfl dL_law_3 ?_
    refine M_callI (pc := 4) C (c_X7_init newT_n) yw_X7_init lk_L_74 (by decide) rfl dL_law_4 rfl (by decide) (by decide) ⟨by decide, by decide⟩ (fun r v2 h => h.1) (fun v1 p1 => ?_)
    refine M_astore_n (pc := 7) C dL_law_7 (Nat.le_of_ble_eq_true rfl) (by decide) ?_
    refine M_iconst (pc := 8) C dL_law_8 ?_
    refine M_istore_n (pc := 9) C dL_law_9 (Nat.le_of_ble_eq_true rfl) ?_
    refine M_iconst (pc := 10) C dL_law_10 ?_
    refine M_istore_n (pc := 11) C dL_law_11 (Nat.le_of_ble_eq_true rfl) ?_
    have hPI : PI 84 (TL (fun _ => (0, 0, lkN))) v1 0 ((0 : Nat) : Int) := start_PI p1.2 TL_TT
    exact law_loop C (by decide) hX2 hL (by decide) (by decide) (fun N T v t k n e4 e5 e6 e7 e8 e9 e10 e11 h1 h2 => fin_law C h1 h2) 44 0 84 _ _ _ _ _ _ _ _ _ _ _ _ _ rfl hPI (by decide) (by decide)
  rw [lg_entry_eq]
  have h0 := hM s.heap [] (lg_sl [Value.ref b] ++ List.replicate (12 - (lg_sl [Value.ref b]).length) Slot.unset).toArray ⟨rfl, fun _ _ => (show i32 0 from by decide), fun i h => absurd rfl h⟩ va_S.rf (by
    have h1 := LH.entry (b := s.heap.size) (as := [vR (-(b : Int) - 2)]) (n := 12) (Nat.le_of_ble_eq_true rfl)
    have e1 : [vR (-(b : Int) - 2)].map (tv s.heap.size) = [Value.ref b] := by
      simp only [List.map_cons, List.map_nil, tv, rf_arr (b := s.heap.size) (q := b) rfl]
    rw [e1] at h1
    rw [hml]
    exact h1)
  exact h0
