/-! the law: the orders without handlers -/
theorem L_pack {κ : KX} {nm : String} {d mc ms N q i len : Nat} {T : Ty} {v : Ct} {f : Nat → Int} {c : Int} {k n : Nat} {Q : State → Prop} {e5 e6 e7 e8 : Option MV} (C : CX κ (mLn nm) d mc ms) (hd : 40 ≤ d) (hA : ARG κ q len f) (hl : len ≤ 1536) (hi : i + 2 < len) (h : LI N T v c) (hc : c < 900000) (hN : N < 1000000000) (hk : k + 10 ≤ mc ∧ n + 139 ≤ ms) (kk : NX κ q i c k n Q) : M κ N T 520 (LL q i e5 e6 e7 e8) [] v k n Q := by
  have hT := h.1
  obtain ⟨dd, hdd, hR⟩ := q_pack h hc
  refine M_aload_n (pc := 520) C dL_law_520 rfl (by decide) ?_
  refine A_pV (pc := 521) C (a := 0) (c := 7) hR yw_X7_pack lk_L_104 rfl (congrArg Prod.fst (tt_0 hT)) hc_7 rfl dL_law_521 rfl (by decide) (by omega) ⟨by omega, by omega⟩ (fun r1 v1 hp => ?_)
  obtain ⟨_, ⟨z, rfl⟩, rfl, D, hD, hR2⟩ := hp
  refine M_wr (pc := 524) ?_
  refine M_aload_n (pc := 524) C dL_law_524 rfl (by decide) ?_
  refine A_pV (pc := 525) C (a := 84) (c := 8) hR2 yw_X8_pack lk_L_107 rfl (congrArg Prod.fst (tt_84 hT)) hc_8 rfl dL_law_525 rfl (Nat.le_of_ble_eq_true rfl) (by omega) ⟨by omega, by omega⟩ (fun r3 v3 hp => ?_)
  obtain ⟨rfl, w3⟩ := hp
  have fin : M κ N T 1405 (LL q i e5 e6 e7 e8) [] v3 k n Q := kk N T v3 _ _ _ _ _ _ (w3.up (by omega)) (by omega) (by omega)
  refine M_wr (pc := 528) ?_
  exact M_icmp_eq (pc := 528) C (tgt := 1405) (wr_i32 _) (wr_i32 _) dL_law_528 (by decide) (fun _ => fin) (fun qq => absurd rfl qq)
theorem L_clearBuffer {κ : KX} {nm : String} {d mc ms N q i len : Nat} {T : Ty} {v : Ct} {f : Nat → Int} {c : Int} {k n : Nat} {Q : State → Prop} {e5 e6 e7 e8 : Option MV} (C : CX κ (mLn nm) d mc ms) (hd : 40 ≤ d) (hA : ARG κ q len f) (hl : len ≤ 1536) (hi : i + 2 < len) (h : LI N T v c) (hc : c < 900000) (hN : N < 1000000000) (hk : k + 10 ≤ mc ∧ n + 139 ≤ ms) (kk : NX κ q i c k n Q) : M κ N T 645 (LL q i e5 e6 e7 e8) [] v k n Q := by
  have hT := h.1
  obtain ⟨dd, hdd, hR⟩ := q_clearBuffer h
  refine M_aload_n (pc := 645) C dL_law_645 rfl (by decide) ?_
  refine A_pV (pc := 646) C (a := 0) (c := 7) hR yw_X7_clearBuffer lk_L_114 rfl (congrArg Prod.fst (tt_0 hT)) hc_7 rfl dL_law_646 rfl (by decide) (by omega) ⟨by omega, by omega⟩ (fun r1 v1 hp => ?_)
  obtain ⟨_, ⟨z, rfl⟩, rfl, D, hD, hR2⟩ := hp
  refine M_wr (pc := 649) ?_
  refine M_aload_n (pc := 649) C dL_law_649 rfl (by decide) ?_
  refine A_pV (pc := 650) C (a := 84) (c := 8) hR2 yw_X8_clearBuffer lk_L_117 rfl (congrArg Prod.fst (tt_84 hT)) hc_8 rfl dL_law_650 rfl (Nat.le_of_ble_eq_true rfl) (by omega) ⟨by omega, by omega⟩ (fun r3 v3 hp => ?_)
  obtain ⟨rfl, w3⟩ := hp
  have fin : M κ N T 1405 (LL q i e5 e6 e7 e8) [] v3 k n Q := kk N T v3 _ _ _ _ _ _ (w3.up (by omega)) (by omega) (by omega)
  refine M_wr (pc := 653) ?_
  exact M_icmp_eq (pc := 653) C (tgt := 1405) (wr_i32 _) (wr_i32 _) dL_law_653 (by decide) (fun _ => fin) (fun qq => absurd rfl qq)
theorem L_firstError {κ : KX} {nm : String} {d mc ms N q i len : Nat} {T : Ty} {v : Ct} {f : Nat → Int} {c : Int} {k n : Nat} {Q : State → Prop} {e5 e6 e7 e8 : Option MV} (C : CX κ (mLn nm) d mc ms) (hd : 40 ≤ d) (hA : ARG κ q len f) (hl : len ≤ 1536) (hi : i + 2 < len) (h : LI N T v c) (hc : c < 900000) (hN : N < 1000000000) (hk : k + 10 ≤ mc ∧ n + 139 ≤ ms) (kk : NX κ q i c k n Q) : M κ N T 658 (LL q i e5 e6 e7 e8) [] v k n Q := by
  have hT := h.1
  obtain ⟨dd, hdd, hR⟩ := q_firstError h
  refine M_aload_n (pc := 658) C dL_law_658 rfl (by decide) ?_
  refine A_pV (pc := 659) C (a := 0) (c := 7) hR yw_X7_firstError lk_L_118 rfl (congrArg Prod.fst (tt_0 hT)) hc_7 rfl dL_law_659 rfl (by decide) (by omega) ⟨by omega, by omega⟩ (fun r1 v1 hp => ?_)
  obtain ⟨_, ⟨z, rfl⟩, rfl, D, hD, hR2⟩ := hp
  refine M_wr (pc := 662) ?_
  refine M_aload_n (pc := 662) C dL_law_662 rfl (by decide) ?_
  refine A_pV (pc := 663) C (a := 84) (c := 8) hR2 yw_X8_firstError lk_L_121 rfl (congrArg Prod.fst (tt_84 hT)) hc_8 rfl dL_law_663 rfl (Nat.le_of_ble_eq_true rfl) (by omega) ⟨by omega, by omega⟩ (fun r3 v3 hp => ?_)
  obtain ⟨rfl, w3⟩ := hp
  have fin : M κ N T 1405 (LL q i e5 e6 e7 e8) [] v3 k n Q := kk N T v3 _ _ _ _ _ _ (w3.up (by omega)) (by omega) (by omega)
  refine M_wr (pc := 666) ?_
  exact M_icmp_eq (pc := 666) C (tgt := 1405) (wr_i32 _) (wr_i32 _) dL_law_666 (by decide) (fun _ => fin) (fun qq => absurd rfl qq)
theorem L_greatest {κ : KX} {nm : String} {d mc ms N q i len : Nat} {T : Ty} {v : Ct} {f : Nat → Int} {c : Int} {k n : Nat} {Q : State → Prop} {e5 e6 e7 e8 : Option MV} (C : CX κ (mLn nm) d mc ms) (hd : 40 ≤ d) (hA : ARG κ q len f) (hl : len ≤ 1536) (hi : i + 2 < len) (h : LI N T v c) (hc : c < 900000) (hN : N < 1000000000) (hk : k + 10 ≤ mc ∧ n + 139 ≤ ms) (kk : NX κ q i c k n Q) : M κ N T 1255 (LL q i e5 e6 e7 e8) [] v k n Q := by
  have hT := h.1
  obtain ⟨dd, hdd, hR⟩ := q_greatest h
  refine M_aload_n (pc := 1255) C dL_law_1255 rfl (by decide) ?_
  refine A_pV (pc := 1256) C (a := 0) (c := 7) hR yw_X7_greatest lk_L_153 rfl (congrArg Prod.fst (tt_0 hT)) hc_7 rfl dL_law_1256 rfl (by decide) (by omega) ⟨by omega, by omega⟩ (fun r1 v1 hp => ?_)
  obtain ⟨_, ⟨z, rfl⟩, rfl, D, hD, hR2⟩ := hp
  refine M_wr (pc := 1259) ?_
  refine M_aload_n (pc := 1259) C dL_law_1259 rfl (by decide) ?_
  refine A_pV (pc := 1260) C (a := 84) (c := 8) hR2 yw_X8_greatest lk_L_156 rfl (congrArg Prod.fst (tt_84 hT)) hc_8 rfl dL_law_1260 rfl (Nat.le_of_ble_eq_true rfl) (by omega) ⟨by omega, by omega⟩ (fun r3 v3 hp => ?_)
  obtain ⟨rfl, w3⟩ := hp
  have fin : M κ N T 1405 (LL q i e5 e6 e7 e8) [] v3 k n Q := kk N T v3 _ _ _ _ _ _ (w3.up (by omega)) (by omega) (by omega)
  refine M_wr (pc := 1263) ?_
  exact M_icmp_eq (pc := 1263) C (tgt := 1405) (wr_i32 _) (wr_i32 _) dL_law_1263 (by decide) (fun _ => fin) (fun qq => absurd rfl qq)
theorem L_ifPacked {κ : KX} {nm : String} {d mc ms N q i len : Nat} {T : Ty} {v : Ct} {f : Nat → Int} {c : Int} {k n : Nat} {Q : State → Prop} {e5 e6 e7 e8 : Option MV} (C : CX κ (mLn nm) d mc ms) (hd : 40 ≤ d) (hA : ARG κ q len f) (hl : len ≤ 1536) (hi : i + 2 < len) (h : LI N T v c) (hc : c < 900000) (hN : N < 1000000000) (hk : k + 10 ≤ mc ∧ n + 139 ≤ ms) (kk : NX κ q i c k n Q) : M κ N T 1324 (LL q i e5 e6 e7 e8) [] v k n Q := by
  have hT := h.1
  obtain ⟨dd, hdd, hR⟩ := q_ifPacked h
  refine M_aload_n (pc := 1324) C dL_law_1324 rfl (by decide) ?_
  refine A_pV (pc := 1325) C (a := 0) (c := 7) hR yw_X7_ifPacked lk_L_160 rfl (congrArg Prod.fst (tt_0 hT)) hc_7 rfl dL_law_1325 rfl (by decide) (by omega) ⟨by omega, by omega⟩ (fun r1 v1 hp => ?_)
  obtain ⟨_, ⟨z, rfl⟩, rfl, D, hD, hR2⟩ := hp
  refine M_wr (pc := 1328) ?_
  refine M_aload_n (pc := 1328) C dL_law_1328 rfl (by decide) ?_
  refine A_pV (pc := 1329) C (a := 84) (c := 8) hR2 yw_X8_ifPacked lk_L_163 rfl (congrArg Prod.fst (tt_84 hT)) hc_8 rfl dL_law_1329 rfl (Nat.le_of_ble_eq_true rfl) (by omega) ⟨by omega, by omega⟩ (fun r3 v3 hp => ?_)
  obtain ⟨rfl, w3⟩ := hp
  have fin : M κ N T 1405 (LL q i e5 e6 e7 e8) [] v3 k n Q := kk N T v3 _ _ _ _ _ _ (w3.up (by omega)) (by omega) (by omega)
  refine M_wr (pc := 1332) ?_
  exact M_icmp_eq (pc := 1332) C (tgt := 1405) (wr_i32 _) (wr_i32 _) dL_law_1332 (by decide) (fun _ => fin) (fun qq => absurd rfl qq)
theorem L_weakest {κ : KX} {nm : String} {d mc ms N q i len : Nat} {T : Ty} {v : Ct} {f : Nat → Int} {c : Int} {k n : Nat} {Q : State → Prop} {e5 e6 e7 e8 : Option MV} (C : CX κ (mLn nm) d mc ms) (hd : 40 ≤ d) (hA : ARG κ q len f) (hl : len ≤ 1536) (hi : i + 2 < len) (h : LI N T v c) (hc : c < 900000) (hN : N < 1000000000) (hk : k + 10 ≤ mc ∧ n + 139 ≤ ms) (kk : NX κ q i c k n Q) : M κ N T 1337 (LL q i e5 e6 e7 e8) [] v k n Q := by
  have hT := h.1
  obtain ⟨dd, hdd, hR⟩ := q_weakest h
  refine M_aload_n (pc := 1337) C dL_law_1337 rfl (by decide) ?_
  refine A_pV (pc := 1338) C (a := 0) (c := 7) hR yw_X7_weakest lk_L_164 rfl (congrArg Prod.fst (tt_0 hT)) hc_7 rfl dL_law_1338 rfl (by decide) (by omega) ⟨by omega, by omega⟩ (fun r1 v1 hp => ?_)
  obtain ⟨_, ⟨z, rfl⟩, rfl, D, hD, hR2⟩ := hp
  refine M_wr (pc := 1341) ?_
  refine M_aload_n (pc := 1341) C dL_law_1341 rfl (by decide) ?_
  refine A_pV (pc := 1342) C (a := 84) (c := 8) hR2 yw_X8_weakest lk_L_167 rfl (congrArg Prod.fst (tt_84 hT)) hc_8 rfl dL_law_1342 rfl (Nat.le_of_ble_eq_true rfl) (by omega) ⟨by omega, by omega⟩ (fun r3 v3 hp => ?_)
  obtain ⟨rfl, w3⟩ := hp
  have fin : M κ N T 1405 (LL q i e5 e6 e7 e8) [] v3 k n Q := kk N T v3 _ _ _ _ _ _ (w3.up (by omega)) (by omega) (by omega)
  refine M_wr (pc := 1345) ?_
  exact M_icmp_eq (pc := 1345) C (tgt := 1405) (wr_i32 _) (wr_i32 _) dL_law_1345 (by decide) (fun _ => fin) (fun qq => absurd rfl qq)
theorem L_usedShare {κ : KX} {nm : String} {d mc ms N q i len : Nat} {T : Ty} {v : Ct} {f : Nat → Int} {c : Int} {k n : Nat} {Q : State → Prop} {e5 e6 e7 e8 : Option MV} (C : CX κ (mLn nm) d mc ms) (hd : 40 ≤ d) (hA : ARG κ q len f) (hl : len ≤ 1536) (hi : i + 2 < len) (h : LI N T v c) (hc : c < 900000) (hN : N < 1000000000) (hk : k + 10 ≤ mc ∧ n + 139 ≤ ms) (kk : NX κ q i c k n Q) : M κ N T 1350 (LL q i e5 e6 e7 e8) [] v k n Q := by
  have hT := h.1
  obtain ⟨dd, hdd, hR⟩ := q_usedShare h
  refine M_aload_n (pc := 1350) C dL_law_1350 rfl (by decide) ?_
  refine A_pV (pc := 1351) C (a := 0) (c := 7) hR yw_X7_usedShare lk_L_168 rfl (congrArg Prod.fst (tt_0 hT)) hc_7 rfl dL_law_1351 rfl (by decide) (by omega) ⟨by omega, by omega⟩ (fun r1 v1 hp => ?_)
  obtain ⟨_, ⟨z, rfl⟩, rfl, D, hD, hR2⟩ := hp
  refine M_dstore (pc := 1354) C dL_law_1354 (Nat.le_of_ble_eq_true rfl) ?_
  refine M_aload_n (pc := 1356) C dL_law_1356 rfl (by decide) ?_
  refine A_pV (pc := 1357) C (a := 84) (c := 8) hR2 yw_X8_usedShare lk_L_172 rfl (congrArg Prod.fst (tt_84 hT)) hc_8 rfl dL_law_1357 rfl (Nat.le_of_ble_eq_true rfl) (by omega) ⟨by omega, by omega⟩ (fun r3 v3 hp => ?_)
  obtain ⟨rfl, w3⟩ := hp
  refine M_dstore (pc := 1360) C dL_law_1360 (Nat.le_of_ble_eq_true rfl) ?_
  have fin : M κ N T 1405 (LL q i (some (vD z)) none (some (vD z)) none) [] v3 k n Q := kk N T v3 _ _ _ _ _ _ (w3.up (by omega)) (by omega) (by omega)
  obtain ⟨y, hy, hyr⟩ := dcmp_v z
  refine M_dload (pc := 1362) C dL_law_1362 rfl ?_
  refine M_dload (pc := 1364) C dL_law_1364 rfl ?_
  refine M_dcmp (pc := 1366) C hy dL_law_1366 ?_
  refine M_if_eq (pc := 1367) C (tgt := 1388) hyr dL_law_1367 (by decide) (fun _ => M_goto (pc := 1388) C (tgt := 1405) dL_law_1388 (by decide) fin) (fun hne => ?_)
  refine M_dload (pc := 1370) C dL_law_1370 rfl ?_
  refine M_dload (pc := 1372) C dL_law_1372 rfl ?_
  refine M_dcmp (pc := 1374) C hy dL_law_1374 ?_
  refine M_if_eq (pc := 1375) C (tgt := 1386) hyr dL_law_1375 (by decide) (fun qq => absurd qq hne) (fun _ => ?_)
  refine M_dload (pc := 1378) C dL_law_1378 rfl ?_
  refine M_dload (pc := 1380) C dL_law_1380 rfl ?_
  refine M_dcmp (pc := 1382) C hy dL_law_1382 ?_
  exact M_if_ne (pc := 1383) C (tgt := 1388) hyr dL_law_1383 (by decide) (fun _ => M_goto (pc := 1388) C (tgt := 1405) dL_law_1388 (by decide) fin) (fun qq => absurd qq hne)
theorem L_digest {κ : KX} {nm : String} {d mc ms N q i len : Nat} {T : Ty} {v : Ct} {f : Nat → Int} {c : Int} {k n : Nat} {Q : State → Prop} {e5 e6 e7 e8 : Option MV} (C : CX κ (mLn nm) d mc ms) (hd : 40 ≤ d) (hA : ARG κ q len f) (hl : len ≤ 1536) (hi : i + 2 < len) (h : LI N T v c) (hc : c < 900000) (hN : N < 1000000000) (hk : k + 10 ≤ mc ∧ n + 139 ≤ ms) (kk : NX κ q i c k n Q) : M κ N T 1391 (LL q i e5 e6 e7 e8) [] v k n Q := by
  have hT := h.1
  obtain ⟨dd, hdd, hR⟩ := q_digest h
  refine M_aload_n (pc := 1391) C dL_law_1391 rfl (by decide) ?_
  refine A_pV (pc := 1392) C (a := 0) (c := 7) hR yw_X7_digest lk_L_173 rfl (congrArg Prod.fst (tt_0 hT)) hc_7 rfl dL_law_1392 rfl (by decide) (by omega) ⟨by omega, by omega⟩ (fun r1 v1 hp => ?_)
  obtain ⟨_, ⟨z, rfl⟩, rfl, D, hD, hR2⟩ := hp
  refine M_aload_n (pc := 1395) C dL_law_1395 rfl (by decide) ?_
  refine A_pV (pc := 1396) C (a := 84) (c := 8) hR2 yw_X8_digest lk_L_177 rfl (congrArg Prod.fst (tt_84 hT)) hc_8 rfl dL_law_1396 rfl (Nat.le_of_ble_eq_true rfl) (by omega) ⟨by omega, by omega⟩ (fun r3 v3 hp => ?_)
  obtain ⟨rfl, w3⟩ := hp
  have fin : M κ N T 1405 (LL q i e5 e6 e7 e8) [] v3 k n Q := kk N T v3 _ _ _ _ _ _ (w3.up (by omega)) (by omega) (by omega)
  refine M_lcmpv (pc := 1399) C (z := 0) (lcmp_self _) dL_law_1399 ?_
  exact M_if_eq (pc := 1400) C (tgt := 1405) (by decide) dL_law_1400 (by decide) (fun _ => fin) (fun qq => absurd rfl qq)
