/-! the law: its start and its end -/
theorem fin_law {p : Program} {l : Launch} {e : Env} {s : State} {m : MethodId} {below : List Frame} {meth : Method} {c : Code} {q : Nat} {δ : DL} {nm : String} {d N k n i : Nat} {T : Ty} {v : Ct} {e5 e6 e7 e8 : Option MV} (C : CX (p, l, e, room_1, s, m, #[Value.ref q], below, meth, c, s.heap.size, δ) (mLn nm) d 601024 7293034) (hk : k ≤ 601024) (hn : n ≤ 7293034) : M (p, l, e, room_1, s, m, #[Value.ref q], below, meth, c, s.heap.size, δ) N T 1411 (LL q i e5 e6 e7 e8) [] v k n (lw_Z below #[Value.ref q] s) := by
  refine M_iconst (pc := 1411) C dL_law_1411 ?_
  refine M.widen hk hn ?_
  obtain ⟨hx, hb, hown, hts, hKK, hEX, hlocks, hnm, hret, -⟩ := C
  intro H locs ls hR hS hL T0 hT X
  have X2 : Stand p l e room_1 s m #[Value.ref q] below meth c T0 [] 601024 7293034 := { X with same := ⟨X.same.1, X.same.2.1, X.same.2.2.1, X.same.2.2.2.1, X.same.2.2.2.2.1, fun a c9 hc => by
    obtain ⟨c', h1, h2, h3, h4⟩ := X.same.2.2.2.2.2 a c9 hc
    refine ⟨c', h1, h2, h3, fun j _ => h4 j (fun hm => ?_)⟩
    have h5 : s.heap.size ≤ a := hS.2.2 _ hm
    have h6 : a < s.heap.size := (Array.getElem?_eq_some_iff.mp hc).1
    exact absurd h6 (Nat.not_lt_of_le h5)⟩ }
  exact lw_ret (d0 := s.drawn) (Drawn.sameBut.refl _ _) hx hb hret hlocks (pc := 1412) dL_law_1412 T0 hT X2
theorem start_LI {v1 v2 : Ct} {T : Ty} (p1 : (v1 1 8 = 0 ∧ v1 1 9 = 0 ∧ v1 1 10 = 0) ∧ (∀ q, q < 24 → v1 2 q = 0 ∧ v1 3 q = -1 ∧ v1 4 q = 0) ∧ (∀ q, q < 10 → v1 5 q = -1 ∧ v1 6 q = -1 ∧ v1 7 q = -1 ∧ v1 8 q = 0 ∧ v1 9 q = 0) ∧ v1 10 1 = 0 ∧ (∀ q, q < 6 → v1 11 q = ((12 + 9 * q : Nat) : Int)) ∧ (∀ q, v1 66 q = -1) ∧ v1 67 1 = 0 ∧ v1 68 = fun _ => 0)
    (h1 : ∀ x, x < 84 → v2 x = v1 x) (h84 : v2 84 = fun _ => 0) (h2 : ∀ x, 85 ≤ x → x < 95 → ∀ q, v2 x q = 0) (hT : TT T) : LI 96 T v2 0 := by
  obtain ⟨a1, a2, a3, a4, a5, a6, a7, a8⟩ := p1
  have hsl : ∀ x, SL 96 T v2 0 x := fun x => Or.inl ⟨by rw [h1 66 (by decide)]; exact a6 x, h2 89 (by decide) (by decide) x⟩
  refine ⟨hT, Nat.le_refl _, DV.empty (fun x _ => h2 85 (by decide) (by decide) x) ?_ (fun q hq => ?_) (fun q hq => ?_), ⟨0, ⟨?_, by decide, fun q hq => ?_, fun p q hp hq e => ?_, fun j hj => absurd hj (Nat.not_lt_zero _)⟩, by rw [h84]; rfl⟩, hsl 0, hsl 1, fun g k hg => ?_, ⟨0, ?_, by rw [h84]; rfl, by decide, ?_⟩, ?_⟩
  · rw [h1 1 (by decide)]; exact a1
  · rw [h1 2 (by decide), h1 3 (by decide), h1 4 (by decide)]; exact a2 q hq
  · rw [h1 5 (by decide), h1 6 (by decide), h1 7 (by decide), h1 8 (by decide), h1 9 (by decide)]; exact a3 q hq
  · rw [h1 10 (by decide)]; exact a4
  · refine ⟨12 + 9 * q, ?_, by rw [h1 11 (by decide)]; exact a5 q hq⟩
    unfold hst
    omega
  · rw [h1 11 (by decide), a5 p hp, a5 q hq] at e
    omega
  · rw [h1 66 (by decide), a6 0] at hg
    omega
  · rw [h1 67 (by decide)]; exact a7
  · rw [h1 68 (by decide), a8]
    funext q
    exact (h2 90 (by decide) (by decide) q).symm
  · unfold HOK
    rw [h2 91 (by decide) (by decide) 0, h2 91 (by decide) (by decide) 1]
    decide
theorem hdv_7 : ∀ j, j < 7 → (if fldI 7 j = true then parseFieldDescriptor (TX7 j).2.2.1 = some .int else ∃ ty, parseFieldDescriptor (TX7 j).2.2.1 = some ty ∧ defaultValue ty = .null) := fun j hj => by
  rcases (show j = 0 ∨ j = 1 ∨ j = 2 ∨ j = 3 ∨ j = 4 ∨ j = 5 ∨ j = 6 by omega) with rfl | rfl | rfl | rfl | rfl | rfl | rfl
  all_goals first | (rw [if_neg (by decide)]; exact ⟨_, rfl, rfl⟩) | (rw [if_pos (by decide)]; rfl)
theorem hdv_8 : ∀ j, j < 14 → (if fldI 8 j = true then parseFieldDescriptor (TX8 j).2.2.1 = some .int else ∃ ty, parseFieldDescriptor (TX8 j).2.2.1 = some ty ∧ defaultValue ty = .null) := fun j hj => by
  rcases (show j = 0 ∨ j = 1 ∨ j = 2 ∨ j = 3 ∨ j = 4 ∨ j = 5 ∨ j = 6 ∨ j = 7 ∨ j = 8 ∨ j = 9 ∨ j = 10 ∨ j = 11 ∨ j = 12 ∨ j = 13 by omega) with rfl | rfl | rfl | rfl | rfl | rfl | rfl | rfl | rfl | rfl | rfl | rfl | rfl | rfl
  all_goals first | (rw [if_neg (by decide)]; exact ⟨_, rfl, rfl⟩) | (rw [if_pos (by decide)]; rfl)
theorem whole_start {p : Program} {e : Env} {s : State} {m : MethodId} {below : List Frame} {meth : Method} {c : Code} (l : Launch) (hflags : l.flags = flags0) {b L : Nat} {xs : Nat → Int32} (hL : L ≤ 1536) (C0 : lw_At p s m meth c b L xs) : W p l e room_1 s m #[Value.ref b] below meth c s.heap [] 0 0 (lw_Z below #[Value.ref b] s) (entryFrame m ([Value.ref b] : List Value).toArray 9) := by
  obtain ⟨hx, hb, hret, hml, hown, hts, hX, hbl, hlocks, hgv⟩ := C0
  obtain ⟨δ, hKK⟩ := kk_start hts
  have hEX := ex_start hts hKK hgv
  have C : CX (p, l, e, room_1, s, m, #[Value.ref b], below, meth, c, s.heap.size, δ) (mLn meth.name) 60 601024 7293034 := ⟨hx, hb, hown, fun w hw => hts w (List.mem_filter.mp hw).1, hKK, hEX, hlocks, rfl, hret, hml, noTrace hflags, Nat.le_refl _, by decide, by decide, Nat.le_refl _, Nat.le_refl _⟩
  have hA : ARG (p, l, e, room_1, s, m, #[Value.ref b], below, meth, c, s.heap.size, δ) b L (fun j => (xs j).toInt) := by
    obtain ⟨scr, x1, x2, x3, x4, x5⟩ := hX
    exact ⟨hbl, hbl, ⟨scr, x1, x2, x3, x4, fun j hj => by rw [x5 j hj, Int32.ofInt_toInt]⟩, fun j => ⟨Int32.le_toInt _, Int32.toInt_lt _⟩⟩
  have hM : M (p, l, e, room_1, s, m, #[Value.ref b], below, meth, c, s.heap.size, δ) 0 (fun _ => (0, 0, lkN)) 0 (ent [vR (-(b : Int) - 2)] 9) [] (fun _ _ => 0) 0 0 (lw_Z below #[Value.ref b] s) := by
    refine M_new (pc := 0) C cf_7 (show Cond.classLink RL 8 RX7 ∈ GW from GW_in (by decide +kernel) rfl) (GW_in (by decide +kernel) rfl) (GW_in (by decide +kernel) rfl) ⟨by decide, by decide⟩ hdv_7 dL_law_0 ?_
    refine M_dup (pc := 3) C rfl dL_law_3 ?_
    refine M_callI (pc := 4) C (c_X7_init newT_n) yw_X7_init lk_L_75 (by decide) rfl dL_law_4 rfl (by decide) (by decide) ⟨by decide, by decide⟩ (fun r v2 h => h.1) (fun v1 p1 => ?_)
    refine M_astore_n (pc := 7) C dL_law_7 (Nat.le_of_ble_eq_true rfl) (by decide) ?_
    refine M_new (pc := 8) C cf_8 (show Cond.classLink RL 76 RX8 ∈ GW from GW_in (by decide +kernel) rfl) (GW_in (by decide +kernel) rfl) (GW_in (by decide +kernel) rfl) ⟨by decide, by decide⟩ hdv_8 dL_law_8 ?_
    refine M_dup (pc := 11) C rfl dL_law_11 ?_
    refine M_callI (pc := 12) C (c_X8_init newT_n) yw_X8_init lk_L_78 (by decide) rfl dL_law_12 rfl (by decide) (by decide) ⟨by decide, by decide⟩ (fun r v2 h => h.1) (fun v2 p2 => ?_)
    refine M_astore_n (pc := 15) C dL_law_15 (Nat.le_of_ble_eq_true rfl) (by decide) ?_
    refine M_iconst (pc := 16) C dL_law_16 ?_
    refine M_newJ (pc := 17) C (GW_in (by decide +kernel) rfl) (by decide) ⟨by decide, by decide⟩ dL_law_17 ?_
    refine M_astore_n (pc := 19) C dL_law_19 (Nat.le_of_ble_eq_true rfl) (by decide) ?_
    refine M_iconst (pc := 20) C dL_law_20 ?_
    refine M_istore (pc := 21) C dL_law_21 (Nat.le_of_ble_eq_true rfl) ?_
    have hLI : LI 96 (TL (fun _ => (0, 0, lkN))) (newV v2 95 0) 0 := by
      obtain ⟨-, p1⟩ := p1
      obtain ⟨-, q1, q2⟩ := p2
      exact start_LI p1 (fun x hx => by rw [newV_o (by omega), q1 x (by omega), newV_o (by omega)]) (by rw [newV_o (by decide), q1 84 (by decide), newV_n]) (fun x h1 h2 q => by rw [newV_o (by omega)]; exact q2 x h1 h2 q) TL_TT
    exact law_loop C (by decide) hA hL rfl ⟨by decide, by decide⟩ (by decide) (fun N T v k n i e5 e6 e7 e8 h1 h2 => fin_law C h1 h2) 512 0 96 _ _ _ _ _ _ _ _ rfl hLI (by decide) (by decide)
  rw [lg_entry_eq]
  have h0 := hM s.heap [] (lg_sl [Value.ref b] ++ List.replicate (9 - (lg_sl [Value.ref b]).length) Slot.unset).toArray ⟨rfl, fun _ _ => (show i32 0 from by decide), fun i h => absurd rfl h⟩ va_S.rf (by
    have h1 := LH.entry (b := s.heap.size) (as := [vR (-(b : Int) - 2)]) (n := 9) (Nat.le_of_ble_eq_true rfl)
    have e1 : [vR (-(b : Int) - 2)].map (tv s.heap.size) = [Value.ref b] := by
      simp only [List.map_cons, List.map_nil, tv, rf_arr (b := s.heap.size) (q := b) rfl]
    rw [e1] at h1
    rw [hml]
    exact h1)
  exact h0
