/-! the law: the switch, the loop -/
theorem and31 (a : Int32) : ∃ o : Nat, o ≤ 31 ∧ a &&& Int32.ofInt 31 = Int32.ofInt (o : Int) := by
  refine ⟨(a.toBitVec &&& 31#32).toNat, ?_, ?_⟩
  · rw [BitVec.toNat_and]
    exact Nat.and_le_right
  · apply Int32.toBitVec_inj.mp
    rw [Int32.toBitVec_and, Int32.toBitVec_ofInt, Int32.toBitVec_ofInt, BitVec.ofInt_natCast, BitVec.ofNat_toNat, BitVec.setWidth_eq]
    rfl
/-- the base of the cells is the heap's end when the law begins -/
def SB (κ : KX) : Prop := match κ with
  | (_, _, _, _, s, _, _, _, _, _, b, _) => s.heap.size = b
section ROWSL
variable {κ : KX} {Y : MD} {d mc ms N : Nat} {T : Ty} {pc : Nat} {L : List (Option MV)} {st : List MV} {v : Ct} {k n : Nat} {Q : State → Prop}
theorem M_iand31 (C : CX κ Y d mc ms) {x : Int} (hd : decode Y.2.1 pc = .ok (.iand, 1)) (kk : ∀ o : Nat, o ≤ 31 → M κ N T (pc + 1) L (vI (o : Int) :: st) v k n Q) : M κ N T pc L (vI 31 :: vI x :: st) v k n Q := by
  obtain ⟨o, h1, h2⟩ := and31 (Int32.ofInt x)
  have kk := kk o h1
  obtain ⟨p, l, e, R, s, m, args, below, meth, c, b, δ⟩ := κ
  obtain ⟨hx, hb, hown, hts, hKK, hEX, hlocks, hnm, hret, hml, -⟩ := C
  intro H locs ls hR hS hL
  have h3 := (kk H locs ls hR hS hL)
  simp only [List.map_cons, tv, ← h2] at h3
  exact lv_iand hx hb hd h3
theorem M_sz (hb : SB κ) (kk : N ≤ k → M κ N T pc L st v k n Q) : M κ N T pc L st v k n Q := by
  obtain ⟨p, l, e, R, s, m, args, below, meth, c, b, δ⟩ := κ
  intro H locs ls hR hS hL T0 hT X
  have h1 : T0.heap.size ≤ s.heap.size + k := X.same.2.2.1
  have h2 : N ≤ k := by
    have h3 := hR.1
    have h4 : s.heap.size = b := hb
    rw [hT] at h1
    omega
  exact kk h2 H locs ls hR hS hL T0 hT X
end ROWSL
theorem law_sw {κ : KX} {nm : String} {d mc ms N q i len o : Nat} {T : Ty} {v : Ct} {f : Nat → Int} {c : Int} {k n : Nat} {Q : State → Prop} {e5 e6 e7 e8 : Option MV} (h31 : o ≤ 31) (C : CX κ (mLn nm) d mc ms) (hd : 40 ≤ d) (hA : ARG κ q len f) (hl : len ≤ 1536) (hi : i + 2 < len) (h : LI N T v c) (hc : c < 900000) (hN : N < 1000000000) (hk : k + 10 ≤ mc ∧ n + 139 ≤ ms) (kk : NX κ q i c k n Q) : M κ N T 39 (LL q i e5 e6 e7 e8) [vI (o : Int)] v k n Q := by
  by_cases ho : o < 27
  · rcases (show o = 0 ∨ o = 1 ∨ o = 2 ∨ o = 3 ∨ o = 4 ∨ o = 5 ∨ o = 6 ∨ o = 7 ∨ o = 8 ∨ o = 9 ∨ o = 10 ∨ o = 11 ∨ o = 12 ∨ o = 13 ∨ o = 14 ∨ o = 15 ∨ o = 16 ∨ o = 17 ∨ o = 18 ∨ o = 19 ∨ o = 20 ∨ o = 21 ∨ o = 22 ∨ o = 23 ∨ o = 24 ∨ o = 25 ∨ o = 26 by omega) with rfl | rfl | rfl | rfl | rfl | rfl | rfl | rfl | rfl | rfl | rfl | rfl | rfl | rfl | rfl | rfl | rfl | rfl | rfl | rfl | rfl | rfl | rfl | rfl | rfl | rfl | rfl
    · exact M_tableIn (pc := 39) C (tgt := 160) (by decide) (by decide) rfl dL_law_39 (by decide) (L_create C hd hA hl hi h hc hN hk kk)
    · exact M_tableIn (pc := 39) C (tgt := 216) (by decide) (by decide) rfl dL_law_39 (by decide) (L_grow C hd hA hl hi h hc hN hk kk)
    · exact M_tableIn (pc := 39) C (tgt := 284) (by decide) (by decide) rfl dL_law_39 (by decide) (L_cut C hd hA hl hi h hc hN hk kk)
    · exact M_tableIn (pc := 39) C (tgt := 352) (by decide) (by decide) rfl dL_law_39 (by decide) (L_delete C hd hA hl hi h hc hN hk kk)
    · exact M_tableIn (pc := 39) C (tgt := 408) (by decide) (by decide) rfl dL_law_39 (by decide) (L_spoil C hd hA hl hi h hc hN hk kk)
    · exact M_tableIn (pc := 39) C (tgt := 464) (by decide) (by decide) rfl dL_law_39 (by decide) (L_heal C hd hA hl hi h hc hN hk kk)
    · exact M_tableIn (pc := 39) C (tgt := 520) (by decide) (by decide) rfl dL_law_39 (by decide) (L_pack C hd hA hl hi h hc hN hk kk)
    · exact M_tableIn (pc := 39) C (tgt := 533) (by decide) (by decide) rfl dL_law_39 (by decide) (L_set C hd hA hl hi h hc hN hk kk)
    · exact M_tableIn (pc := 39) C (tgt := 589) (by decide) (by decide) rfl dL_law_39 (by decide) (L_append C hd hA hl hi h hc hN hk kk)
    · exact M_tableIn (pc := 39) C (tgt := 645) (by decide) (by decide) rfl dL_law_39 (by decide) (L_clearBuffer C hd hA hl hi h hc hN hk kk)
    · exact M_tableIn (pc := 39) C (tgt := 658) (by decide) (by decide) rfl dL_law_39 (by decide) (L_firstError C hd hA hl hi h hc hN hk kk)
    · exact M_tableIn (pc := 39) C (tgt := 671) (by decide) (by decide) rfl dL_law_39 (by decide) (L_run C hd hA hl hi h hc hN hk kk)
    · exact M_tableIn (pc := 39) C (tgt := 715) (by decide) (by decide) rfl dL_law_39 (by decide) (L_keep C hd hA hl hi h hc hN hk kk)
    · exact M_tableIn (pc := 39) C (tgt := 771) (by decide) (by decide) rfl dL_law_39 (by decide) (L_goBack C hd hA hl hi h hc hN hk kk)
    · exact M_tableIn (pc := 39) C (tgt := 827) (by decide) (by decide) rfl dL_law_39 (by decide) (L_undo C hd hA hl hi h hc hN hk kk)
    · exact M_tableIn (pc := 39) C (tgt := 871) (by decide) (by decide) rfl dL_law_39 (by decide) (L_fileOf C hd hA hl hi h hc hN hk kk)
    · exact M_tableIn (pc := 39) C (tgt := 939) (by decide) (by decide) rfl dL_law_39 (by decide) (L_place C hd hA hl hi h hc hN hk kk)
    · exact M_tableIn (pc := 39) C (tgt := 1007) (by decide) (by decide) rfl dL_law_39 (by decide) (L_blockOf C hd hA hl hi h hc hN hk kk)
    · exact M_tableIn (pc := 39) C (tgt := 1075) (by decide) (by decide) rfl dL_law_39 (by decide) (L_count C hd hA hl hi h hc hN hk kk)
    · exact M_tableIn (pc := 39) C (tgt := 1131) (by decide) (by decide) rfl dL_law_39 (by decide) (L_ifPlaced C hd hA hl hi h hc hN hk kk)
    · exact M_tableIn (pc := 39) C (tgt := 1187) (by decide) (by decide) rfl dL_law_39 (by decide) (L_ifGrown C hd hA hl hi h hc hN hk kk)
    · exact M_tableIn (pc := 39) C (tgt := 1255) (by decide) (by decide) rfl dL_law_39 (by decide) (L_greatest C hd hA hl hi h hc hN hk kk)
    · exact M_tableIn (pc := 39) C (tgt := 1268) (by decide) (by decide) rfl dL_law_39 (by decide) (L_fewest C hd hA hl hi h hc hN hk kk)
    · exact M_tableIn (pc := 39) C (tgt := 1324) (by decide) (by decide) rfl dL_law_39 (by decide) (L_ifPacked C hd hA hl hi h hc hN hk kk)
    · exact M_tableIn (pc := 39) C (tgt := 1337) (by decide) (by decide) rfl dL_law_39 (by decide) (L_weakest C hd hA hl hi h hc hN hk kk)
    · exact M_tableIn (pc := 39) C (tgt := 1350) (by decide) (by decide) rfl dL_law_39 (by decide) (L_usedShare C hd hA hl hi h hc hN hk kk)
    · exact M_tableIn (pc := 39) C (tgt := 1391) (by decide) (by decide) rfl dL_law_39 (by decide) (L_digest C hd hA hl hi h hc hN hk kk)
  · exact M_tableOut (pc := 39) C (tgt := 1405) (by omega) (by omega) dL_law_39 (by decide) (kk N T v _ _ _ _ _ _ (h.up (by omega)) (by omega) (by omega))
theorem law_loop {κ : KX} {nm : String} {d mc ms q len : Nat} {f : Nat → Int} {Q : State → Prop} (C : CX κ (mLn nm) d mc ms) (hd : 40 ≤ d) (hA : ARG κ q len f) (hl : len ≤ 1536) (hb : SB κ) (hmc : 6000 ≤ mc ∧ mc < 1000000000) (hms : 80000 ≤ ms)
    (fin : ∀ (N : Nat) (T : Ty) (v : Ct) (k n i : Nat) (e5 e6 e7 e8 : Option MV), k ≤ mc → n ≤ ms → M κ N T 1411 (LL q i e5 e6 e7 e8) [] v k n Q) : ∀ (r j N : Nat) (T : Ty) (v : Ct) (k n : Nat) (e5 e6 e7 e8 : Option MV), j + r = 512 → LI N T v (61 * (j : Int)) → k ≤ 100 + 10 * j → n ≤ 7000 + 139 * j → M κ N T 23 (LL q (3 * j) e5 e6 e7 e8) [] v k n Q := by
  intro r
  induction r with
  | zero =>
    intro j N T v k n e5 e6 e7 e8 hj h hk hn
    refine M_iload (pc := 23) C dL_law_23 rfl ?_
    refine M_aloadA_n (pc := 25) C dL_law_25 rfl ?_
    refine M_alenA (pc := 26) C hA dL_law_26 ?_
    refine M_iconst (pc := 27) C dL_law_27 ?_
    refine M_isub (pc := 28) C dL_law_28 ?_
    exact M_icmp_gt (pc := 29) C (tgt := 1411) (by omega) (by omega) dL_law_29 (by decide) (fun _ => fin _ _ _ _ _ _ _ _ _ _ (by omega) (by omega)) (fun hle => by exfalso; omega)
  | succ r ih =>
    intro j N T v k n e5 e6 e7 e8 hj h hk hn
    refine M_iload (pc := 23) C dL_law_23 rfl ?_
    refine M_aloadA_n (pc := 25) C dL_law_25 rfl ?_
    refine M_alenA (pc := 26) C hA dL_law_26 ?_
    refine M_iconst (pc := 27) C dL_law_27 ?_
    refine M_isub (pc := 28) C dL_law_28 ?_
    refine M_icmp_gt (pc := 29) C (tgt := 1411) (by omega) (by omega) dL_law_29 (by decide) (fun _ => fin _ _ _ _ _ _ _ _ _ _ (by omega) (by omega)) (fun hle => ?_)
    refine M_aloadA_n (pc := 32) C dL_law_32 rfl ?_
    refine M_iload (pc := 33) C dL_law_33 rfl ?_
    refine M_ialdA (pc := 35) C (g := 3 * j) hA (by omega) (by omega) (by omega) dL_law_35 (fun r_35 => ?_)
    refine M_bipush (pc := 36) C (by decide) dL_law_36 ?_
    refine M_iand31 (pc := 38) C dL_law_38 (fun o ho => ?_)
    refine M_sz hb (fun hN => ?_)
    refine law_sw ho C hd hA hl (by omega) h (by omega) (by omega) ⟨by omega, by omega⟩ (fun N1 T1 v1 k1 n1 f5 f6 f7 f8 h1 hk1 hn1 => ?_)
    refine M_iinc (pc := 1405) C dL_law_1405 rfl (Nat.le_of_ble_eq_true rfl) ?_
    refine M_goto (pc := 1408) C (tgt := 23) dL_law_1408 (by decide) ?_
    rw [show (((3 * j : Nat) : Int) + 3) = ((3 * (j + 1) : Nat) : Int) by omega]
    exact ih (j + 1) N1 T1 v1 k1 n1 f5 f6 f7 f8 (by omega) (h1.up (by omega)) (by omega) (by omega)
