/-! the law: one order after the other, on both sides -/
/-- the law's own method -/
abbrev mLn (nm : String) : MD := (⟨RL, nm, "([I)Z"⟩, cL_law, 9, ret)
/-- the law's locals -/
abbrev LL (q i : Nat) (a b c d : Option MV) : List (Option MV) := [some (vR (-(q : Int) - 2)), some (vR 0), some (vR 84), some (vR 95), some (vI ((i : Nat) : Int)), a, b, c, d]
/-- what follows an order -/
def NX (κ : KX) (q i : Nat) (c : Int) (k n : Nat) (Q : State → Prop) : Prop := ∀ (N1 : Nat) (T1 : Ty) (v1 : Ct) (k1 n1 : Nat) (e5 e6 e7 e8 : Option MV), LI N1 T1 v1 (c + 61) → k1 ≤ k + 10 → n1 ≤ n + 139 → M κ N1 T1 1405 (LL q i e5 e6 e7 e8) [] v1 k1 n1 Q
theorem LI.up {N : Nat} {T : Ty} {v : Ct} {c c2 : Int} (h : LI N T v c) (hc : c ≤ c2) : LI N T v c2 := h.lk (Nat.le_refl _) hc (fun _ _ => rfl) (fun _ _ _ => rfl) h.2.2.2.2.2.2.2.2
theorem lcmp_self (x : Int64) : lg_cmp x x = Int32.ofInt 0 := by
  unfold lg_cmp
  simp
theorem dcmp_v (x : UInt64) : ∃ z : Int, Op.cmpValue (FP.dcmp x x) .l = Int32.ofInt z ∧ i32 z := ⟨(Op.cmpValue (FP.dcmp x x) .l).toInt, (Int32.ofInt_toInt _).symm, Int32.le_toInt _, Int32.toInt_lt _⟩
theorem L_create {κ : KX} {nm : String} {d mc ms N q i len : Nat} {T : Ty} {v : Ct} {f : Nat → Int} {c : Int} {k n : Nat} {Q : State → Prop} {e5 e6 e7 e8 : Option MV} (C : CX κ (mLn nm) d mc ms) (hd : 40 ≤ d) (hA : ARG κ q len f) (hl : len ≤ 1536) (hi : i + 2 < len) (h : LI N T v c) (hc : c < 900000) (hN : N < 1000000000) (hk : k + 10 ≤ mc ∧ n + 139 ≤ ms) (kk : NX κ q i c k n Q) : M κ N T 160 (LL q i e5 e6 e7 e8) [] v k n Q := by
  have hT := h.1
  refine M_aload_n (pc := 160) C dL_law_160 rfl (by decide) ?_
  refine M_aloadA_n (pc := 161) C dL_law_161 rfl ?_
  refine M_iload (pc := 162) C dL_law_162 rfl ?_
  refine M_iconst (pc := 164) C dL_law_164 ?_
  refine M_iadd (pc := 165) C dL_law_165 ?_
  refine M_ialdA (pc := 166) C (g := i + 1) hA (by omega) (by omega) (by omega) dL_law_166 (fun r_166 => ?_)
  refine M_aload_n (pc := 167) C dL_law_167 rfl (by decide) ?_
  obtain ⟨code, dd, hdd, hR⟩ := p_create h r_166 hc
  refine M_callE (pc := 168) C hR ye_create ml_LL_79 rfl dL_law_168 rfl (by decide) (by omega) ⟨by omega, by omega⟩ (fun r1 N1 T1 v1 hp => ?_)
  obtain ⟨⟨rfl, h0, h2⟩, hT1, hN1, D, hD, hR2⟩ := hp
  refine M_istore (pc := 171) C dL_law_171 (Nat.le_of_ble_eq_true rfl) ?_
  refine M_aload_n (pc := 173) C dL_law_173 rfl (by decide) ?_
  refine M_aloadA_n (pc := 174) C dL_law_174 rfl ?_
  refine M_iload (pc := 175) C dL_law_175 rfl ?_
  refine M_iconst (pc := 177) C dL_law_177 ?_
  refine M_iadd (pc := 178) C dL_law_178 ?_
  refine M_ialdA (pc := 179) C (g := i + 1) hA (by omega) (by omega) (by omega) dL_law_179 (fun r_179 => ?_)
  refine A_pV (pc := 180) C (a := 84) (c := 8) hR2 yw_X8_create lk_L_84 rfl (congrArg Prod.fst (tt_84 hT1)) hc_8 rfl dL_law_180 rfl (by decide) (by omega) ⟨by omega, by omega⟩ (fun r3 v3 hp => ?_)
  obtain ⟨z, rfl, w1, w2, w3⟩ := hp
  refine M_wr (pc := 183) ?_
  refine M_istore (pc := 183) C dL_law_183 (Nat.le_of_ble_eq_true rfl) ?_
  refine M_aload_n (pc := 185) C dL_law_185 rfl (by decide) ?_
  refine A_cV (pc := 186) C (a := 84) (c := 8) (c_X8_thrown hT1) yw_X8_thrown lk_L_85 rfl (congrArg Prod.fst (tt_84 hT1)) hc_8 rfl dL_law_186 rfl (by decide) (by omega) ⟨by omega, by omega⟩ ?_
  refine M_iload (pc := 189) C dL_law_189 rfl ?_
  refine M_icmp_eq (pc := 191) C (tgt := 196) (by rw [w1]; omega) (by omega) dL_law_191 (by decide) (fun _ => ?_) (fun qq => absurd w1 qq)
  refine M_iload (pc := 196) C dL_law_196 rfl ?_
  have fin : M κ N1 T1 1405 (LL q i (some (vI code)) (some (vI (wr z))) e7 e8) [] v3 (k + 1) (n + 6) Q := kk N1 T1 v3 _ _ _ _ _ _ (w3.up (by omega)) (by omega) (by omega)
  refine M_if_ne (pc := 198) C (tgt := 213) (by omega) dL_law_198 (by decide) (fun hne => M_goto (pc := 213) C (tgt := 1405) dL_law_213 (by decide) fin) (fun hz => ?_)
  refine M_aload_n (pc := 201) C dL_law_201 rfl (by decide) ?_
  refine M_iconst (pc := 202) C dL_law_202 ?_
  refine A_lald (pc := 203) C (a := 95) (q := 0) rfl (tt_95 hT1) (by decide) rfl (by decide) dL_law_203 (fun _ => ?_)
  refine M_iload (pc := 204) C dL_law_204 rfl ?_
  refine M_i2l (pc := 206) C (wr_i32 _) dL_law_206 ?_
  refine M_lcmpv (pc := 207) C (z := 0) (by rw [w2 hz]; exact lcmp_self _) dL_law_207 ?_
  exact M_if_eq (pc := 208) C (tgt := 213) (by decide) dL_law_208 (by decide) (fun _ => M_goto (pc := 213) C (tgt := 1405) dL_law_213 (by decide) fin) (fun qq => absurd rfl qq)
theorem L_grow {κ : KX} {nm : String} {d mc ms N q i len : Nat} {T : Ty} {v : Ct} {f : Nat → Int} {c : Int} {k n : Nat} {Q : State → Prop} {e5 e6 e7 e8 : Option MV} (C : CX κ (mLn nm) d mc ms) (hd : 40 ≤ d) (hA : ARG κ q len f) (hl : len ≤ 1536) (hi : i + 2 < len) (h : LI N T v c) (hc : c < 900000) (hN : N < 1000000000) (hk : k + 10 ≤ mc ∧ n + 139 ≤ ms) (kk : NX κ q i c k n Q) : M κ N T 216 (LL q i e5 e6 e7 e8) [] v k n Q := by
  have hT := h.1
  refine M_aload_n (pc := 216) C dL_law_216 rfl (by decide) ?_
  refine M_aloadA_n (pc := 217) C dL_law_217 rfl ?_
  refine M_iload (pc := 218) C dL_law_218 rfl ?_
  refine M_iconst (pc := 220) C dL_law_220 ?_
  refine M_iadd (pc := 221) C dL_law_221 ?_
  refine M_ialdA (pc := 222) C (g := i + 1) hA (by omega) (by omega) (by omega) dL_law_222 (fun r_222 => ?_)
  refine M_aloadA_n (pc := 223) C dL_law_223 rfl ?_
  refine M_iload (pc := 224) C dL_law_224 rfl ?_
  refine M_iconst (pc := 226) C dL_law_226 ?_
  refine M_iadd (pc := 227) C dL_law_227 ?_
  refine M_ialdA (pc := 228) C (g := i + 2) hA (by omega) (by omega) (by omega) dL_law_228 (fun r_228 => ?_)
  refine M_aload_n (pc := 229) C dL_law_229 rfl (by decide) ?_
  obtain ⟨code, dd, hdd, hR⟩ := p_grow h r_222 r_228 hc
  refine M_callE (pc := 230) C hR ye_grow ml_LL_88 rfl dL_law_230 rfl (by decide) (by omega) ⟨by omega, by omega⟩ (fun r1 N1 T1 v1 hp => ?_)
  obtain ⟨⟨rfl, h0, h2⟩, hT1, hN1, D, hD, hR2⟩ := hp
  refine M_istore (pc := 233) C dL_law_233 (Nat.le_of_ble_eq_true rfl) ?_
  refine M_aload_n (pc := 235) C dL_law_235 rfl (by decide) ?_
  refine M_aloadA_n (pc := 236) C dL_law_236 rfl ?_
  refine M_iload (pc := 237) C dL_law_237 rfl ?_
  refine M_iconst (pc := 239) C dL_law_239 ?_
  refine M_iadd (pc := 240) C dL_law_240 ?_
  refine M_ialdA (pc := 241) C (g := i + 1) hA (by omega) (by omega) (by omega) dL_law_241 (fun r_241 => ?_)
  refine M_aloadA_n (pc := 242) C dL_law_242 rfl ?_
  refine M_iload (pc := 243) C dL_law_243 rfl ?_
  refine M_iconst (pc := 245) C dL_law_245 ?_
  refine M_iadd (pc := 246) C dL_law_246 ?_
  refine M_ialdA (pc := 247) C (g := i + 2) hA (by omega) (by omega) (by omega) dL_law_247 (fun r_247 => ?_)
  refine A_pV (pc := 248) C (a := 84) (c := 8) hR2 yw_X8_grow lk_L_91 rfl (congrArg Prod.fst (tt_84 hT1)) hc_8 rfl dL_law_248 rfl (by decide) (by omega) ⟨by omega, by omega⟩ (fun r3 v3 hp => ?_)
  obtain ⟨z, rfl, w1, w2, w3⟩ := hp
  refine M_wr (pc := 251) ?_
  refine M_istore (pc := 251) C dL_law_251 (Nat.le_of_ble_eq_true rfl) ?_
  refine M_aload_n (pc := 253) C dL_law_253 rfl (by decide) ?_
  refine A_cV (pc := 254) C (a := 84) (c := 8) (c_X8_thrown hT1) yw_X8_thrown lk_L_85 rfl (congrArg Prod.fst (tt_84 hT1)) hc_8 rfl dL_law_254 rfl (by decide) (by omega) ⟨by omega, by omega⟩ ?_
  refine M_iload (pc := 257) C dL_law_257 rfl ?_
  refine M_icmp_eq (pc := 259) C (tgt := 264) (by rw [w1]; omega) (by omega) dL_law_259 (by decide) (fun _ => ?_) (fun qq => absurd w1 qq)
  refine M_iload (pc := 264) C dL_law_264 rfl ?_
  have fin : M κ N1 T1 1405 (LL q i (some (vI code)) (some (vI (wr z))) e7 e8) [] v3 (k + 1) (n + 6) Q := kk N1 T1 v3 _ _ _ _ _ _ (w3.up (by omega)) (by omega) (by omega)
  refine M_if_ne (pc := 266) C (tgt := 281) (by omega) dL_law_266 (by decide) (fun hne => M_goto (pc := 281) C (tgt := 1405) dL_law_281 (by decide) fin) (fun hz => ?_)
  refine M_aload_n (pc := 269) C dL_law_269 rfl (by decide) ?_
  refine M_iconst (pc := 270) C dL_law_270 ?_
  refine A_lald (pc := 271) C (a := 95) (q := 0) rfl (tt_95 hT1) (by decide) rfl (by decide) dL_law_271 (fun _ => ?_)
  refine M_iload (pc := 272) C dL_law_272 rfl ?_
  refine M_i2l (pc := 274) C (wr_i32 _) dL_law_274 ?_
  refine M_lcmpv (pc := 275) C (z := 0) (by rw [w2 hz]; exact lcmp_self _) dL_law_275 ?_
  exact M_if_eq (pc := 276) C (tgt := 281) (by decide) dL_law_276 (by decide) (fun _ => M_goto (pc := 281) C (tgt := 1405) dL_law_281 (by decide) fin) (fun qq => absurd rfl qq)
theorem L_cut {κ : KX} {nm : String} {d mc ms N q i len : Nat} {T : Ty} {v : Ct} {f : Nat → Int} {c : Int} {k n : Nat} {Q : State → Prop} {e5 e6 e7 e8 : Option MV} (C : CX κ (mLn nm) d mc ms) (hd : 40 ≤ d) (hA : ARG κ q len f) (hl : len ≤ 1536) (hi : i + 2 < len) (h : LI N T v c) (hc : c < 900000) (hN : N < 1000000000) (hk : k + 10 ≤ mc ∧ n + 139 ≤ ms) (kk : NX κ q i c k n Q) : M κ N T 284 (LL q i e5 e6 e7 e8) [] v k n Q := by
  have hT := h.1
  refine M_aload_n (pc := 284) C dL_law_284 rfl (by decide) ?_
  refine M_aloadA_n (pc := 285) C dL_law_285 rfl ?_
  refine M_iload (pc := 286) C dL_law_286 rfl ?_
  refine M_iconst (pc := 288) C dL_law_288 ?_
  refine M_iadd (pc := 289) C dL_law_289 ?_
  refine M_ialdA (pc := 290) C (g := i + 1) hA (by omega) (by omega) (by omega) dL_law_290 (fun r_290 => ?_)
  refine M_aloadA_n (pc := 291) C dL_law_291 rfl ?_
  refine M_iload (pc := 292) C dL_law_292 rfl ?_
  refine M_iconst (pc := 294) C dL_law_294 ?_
  refine M_iadd (pc := 295) C dL_law_295 ?_
  refine M_ialdA (pc := 296) C (g := i + 2) hA (by omega) (by omega) (by omega) dL_law_296 (fun r_296 => ?_)
  refine M_aload_n (pc := 297) C dL_law_297 rfl (by decide) ?_
  obtain ⟨code, dd, hdd, hR⟩ := p_cut h r_290 r_296 hc
  refine M_callE (pc := 298) C hR ye_cut ml_LL_92 rfl dL_law_298 rfl (by decide) (by omega) ⟨by omega, by omega⟩ (fun r1 N1 T1 v1 hp => ?_)
  obtain ⟨⟨rfl, h0, h2⟩, hT1, hN1, D, hD, hR2⟩ := hp
  refine M_istore (pc := 301) C dL_law_301 (Nat.le_of_ble_eq_true rfl) ?_
  refine M_aload_n (pc := 303) C dL_law_303 rfl (by decide) ?_
  refine M_aloadA_n (pc := 304) C dL_law_304 rfl ?_
  refine M_iload (pc := 305) C dL_law_305 rfl ?_
  refine M_iconst (pc := 307) C dL_law_307 ?_
  refine M_iadd (pc := 308) C dL_law_308 ?_
  refine M_ialdA (pc := 309) C (g := i + 1) hA (by omega) (by omega) (by omega) dL_law_309 (fun r_309 => ?_)
  refine M_aloadA_n (pc := 310) C dL_law_310 rfl ?_
  refine M_iload (pc := 311) C dL_law_311 rfl ?_
  refine M_iconst (pc := 313) C dL_law_313 ?_
  refine M_iadd (pc := 314) C dL_law_314 ?_
  refine M_ialdA (pc := 315) C (g := i + 2) hA (by omega) (by omega) (by omega) dL_law_315 (fun r_315 => ?_)
  refine A_pV (pc := 316) C (a := 84) (c := 8) hR2 yw_X8_cut lk_L_94 rfl (congrArg Prod.fst (tt_84 hT1)) hc_8 rfl dL_law_316 rfl (by decide) (by omega) ⟨by omega, by omega⟩ (fun r3 v3 hp => ?_)
  obtain ⟨z, rfl, w1, w2, w3⟩ := hp
  refine M_wr (pc := 319) ?_
  refine M_istore (pc := 319) C dL_law_319 (Nat.le_of_ble_eq_true rfl) ?_
  refine M_aload_n (pc := 321) C dL_law_321 rfl (by decide) ?_
  refine A_cV (pc := 322) C (a := 84) (c := 8) (c_X8_thrown hT1) yw_X8_thrown lk_L_85 rfl (congrArg Prod.fst (tt_84 hT1)) hc_8 rfl dL_law_322 rfl (by decide) (by omega) ⟨by omega, by omega⟩ ?_
  refine M_iload (pc := 325) C dL_law_325 rfl ?_
  refine M_icmp_eq (pc := 327) C (tgt := 332) (by rw [w1]; omega) (by omega) dL_law_327 (by decide) (fun _ => ?_) (fun qq => absurd w1 qq)
  refine M_iload (pc := 332) C dL_law_332 rfl ?_
  have fin : M κ N1 T1 1405 (LL q i (some (vI code)) (some (vI (wr z))) e7 e8) [] v3 (k + 1) (n + 6) Q := kk N1 T1 v3 _ _ _ _ _ _ (w3.up (by omega)) (by omega) (by omega)
  refine M_if_ne (pc := 334) C (tgt := 349) (by omega) dL_law_334 (by decide) (fun hne => M_goto (pc := 349) C (tgt := 1405) dL_law_349 (by decide) fin) (fun hz => ?_)
  refine M_aload_n (pc := 337) C dL_law_337 rfl (by decide) ?_
  refine M_iconst (pc := 338) C dL_law_338 ?_
  refine A_lald (pc := 339) C (a := 95) (q := 0) rfl (tt_95 hT1) (by decide) rfl (by decide) dL_law_339 (fun _ => ?_)
  refine M_iload (pc := 340) C dL_law_340 rfl ?_
  refine M_i2l (pc := 342) C (wr_i32 _) dL_law_342 ?_
  refine M_lcmpv (pc := 343) C (z := 0) (by rw [w2 hz]; exact lcmp_self _) dL_law_343 ?_
  exact M_if_eq (pc := 344) C (tgt := 349) (by decide) dL_law_344 (by decide) (fun _ => M_goto (pc := 349) C (tgt := 1405) dL_law_349 (by decide) fin) (fun qq => absurd rfl qq)
theorem L_delete {κ : KX} {nm : String} {d mc ms N q i len : Nat} {T : Ty} {v : Ct} {f : Nat → Int} {c : Int} {k n : Nat} {Q : State → Prop} {e5 e6 e7 e8 : Option MV} (C : CX κ (mLn nm) d mc ms) (hd : 40 ≤ d) (hA : ARG κ q len f) (hl : len ≤ 1536) (hi : i + 2 < len) (h : LI N T v c) (hc : c < 900000) (hN : N < 1000000000) (hk : k + 10 ≤ mc ∧ n + 139 ≤ ms) (kk : NX κ q i c k n Q) : M κ N T 352 (LL q i e5 e6 e7 e8) [] v k n Q := by
  have hT := h.1
  refine M_aload_n (pc := 352) C dL_law_352 rfl (by decide) ?_
  refine M_aloadA_n (pc := 353) C dL_law_353 rfl ?_
  refine M_iload (pc := 354) C dL_law_354 rfl ?_
  refine M_iconst (pc := 356) C dL_law_356 ?_
  refine M_iadd (pc := 357) C dL_law_357 ?_
  refine M_ialdA (pc := 358) C (g := i + 1) hA (by omega) (by omega) (by omega) dL_law_358 (fun r_358 => ?_)
  refine M_aload_n (pc := 359) C dL_law_359 rfl (by decide) ?_
  obtain ⟨code, dd, hdd, hR⟩ := p_delete h r_358 hc
  refine M_callE (pc := 360) C hR ye_delete ml_LL_95 rfl dL_law_360 rfl (by decide) (by omega) ⟨by omega, by omega⟩ (fun r1 N1 T1 v1 hp => ?_)
  obtain ⟨⟨rfl, h0, h2⟩, hT1, hN1, D, hD, hR2⟩ := hp
  refine M_istore (pc := 363) C dL_law_363 (Nat.le_of_ble_eq_true rfl) ?_
  refine M_aload_n (pc := 365) C dL_law_365 rfl (by decide) ?_
  refine M_aloadA_n (pc := 366) C dL_law_366 rfl ?_
  refine M_iload (pc := 367) C dL_law_367 rfl ?_
  refine M_iconst (pc := 369) C dL_law_369 ?_
  refine M_iadd (pc := 370) C dL_law_370 ?_
  refine M_ialdA (pc := 371) C (g := i + 1) hA (by omega) (by omega) (by omega) dL_law_371 (fun r_371 => ?_)
  refine A_pV (pc := 372) C (a := 84) (c := 8) hR2 yw_X8_delete lk_L_97 rfl (congrArg Prod.fst (tt_84 hT1)) hc_8 rfl dL_law_372 rfl (by decide) (by omega) ⟨by omega, by omega⟩ (fun r3 v3 hp => ?_)
  obtain ⟨z, rfl, w1, w2, w3⟩ := hp
  refine M_wr (pc := 375) ?_
  refine M_istore (pc := 375) C dL_law_375 (Nat.le_of_ble_eq_true rfl) ?_
  refine M_aload_n (pc := 377) C dL_law_377 rfl (by decide) ?_
  refine A_cV (pc := 378) C (a := 84) (c := 8) (c_X8_thrown hT1) yw_X8_thrown lk_L_85 rfl (congrArg Prod.fst (tt_84 hT1)) hc_8 rfl dL_law_378 rfl (by decide) (by omega) ⟨by omega, by omega⟩ ?_
  refine M_iload (pc := 381) C dL_law_381 rfl ?_
  refine M_icmp_eq (pc := 383) C (tgt := 388) (by rw [w1]; omega) (by omega) dL_law_383 (by decide) (fun _ => ?_) (fun qq => absurd w1 qq)
  refine M_iload (pc := 388) C dL_law_388 rfl ?_
  have fin : M κ N1 T1 1405 (LL q i (some (vI code)) (some (vI (wr z))) e7 e8) [] v3 (k + 1) (n + 6) Q := kk N1 T1 v3 _ _ _ _ _ _ (w3.up (by omega)) (by omega) (by omega)
  refine M_if_ne (pc := 390) C (tgt := 405) (by omega) dL_law_390 (by decide) (fun hne => M_goto (pc := 405) C (tgt := 1405) dL_law_405 (by decide) fin) (fun hz => ?_)
  refine M_aload_n (pc := 393) C dL_law_393 rfl (by decide) ?_
  refine M_iconst (pc := 394) C dL_law_394 ?_
  refine A_lald (pc := 395) C (a := 95) (q := 0) rfl (tt_95 hT1) (by decide) rfl (by decide) dL_law_395 (fun _ => ?_)
  refine M_iload (pc := 396) C dL_law_396 rfl ?_
  refine M_i2l (pc := 398) C (wr_i32 _) dL_law_398 ?_
  refine M_lcmpv (pc := 399) C (z := 0) (by rw [w2 hz]; exact lcmp_self _) dL_law_399 ?_
  exact M_if_eq (pc := 400) C (tgt := 405) (by decide) dL_law_400 (by decide) (fun _ => M_goto (pc := 405) C (tgt := 1405) dL_law_405 (by decide) fin) (fun qq => absurd rfl qq)
theorem L_spoil {κ : KX} {nm : String} {d mc ms N q i len : Nat} {T : Ty} {v : Ct} {f : Nat → Int} {c : Int} {k n : Nat} {Q : State → Prop} {e5 e6 e7 e8 : Option MV} (C : CX κ (mLn nm) d mc ms) (hd : 40 ≤ d) (hA : ARG κ q len f) (hl : len ≤ 1536) (hi : i + 2 < len) (h : LI N T v c) (hc : c < 900000) (hN : N < 1000000000) (hk : k + 10 ≤ mc ∧ n + 139 ≤ ms) (kk : NX κ q i c k n Q) : M κ N T 408 (LL q i e5 e6 e7 e8) [] v k n Q := by
  have hT := h.1
  refine M_aload_n (pc := 408) C dL_law_408 rfl (by decide) ?_
  refine M_aloadA_n (pc := 409) C dL_law_409 rfl ?_
  refine M_iload (pc := 410) C dL_law_410 rfl ?_
  refine M_iconst (pc := 412) C dL_law_412 ?_
  refine M_iadd (pc := 413) C dL_law_413 ?_
  refine M_ialdA (pc := 414) C (g := i + 1) hA (by omega) (by omega) (by omega) dL_law_414 (fun r_414 => ?_)
  refine M_aload_n (pc := 415) C dL_law_415 rfl (by decide) ?_
  obtain ⟨code, dd, hdd, hR⟩ := p_spoil h r_414 hc
  refine M_callE (pc := 416) C hR ye_spoil ml_LL_98 rfl dL_law_416 rfl (by decide) (by omega) ⟨by omega, by omega⟩ (fun r1 N1 T1 v1 hp => ?_)
  obtain ⟨⟨rfl, h0, h2⟩, hT1, hN1, D, hD, hR2⟩ := hp
  refine M_istore (pc := 419) C dL_law_419 (Nat.le_of_ble_eq_true rfl) ?_
  refine M_aload_n (pc := 421) C dL_law_421 rfl (by decide) ?_
  refine M_aloadA_n (pc := 422) C dL_law_422 rfl ?_
  refine M_iload (pc := 423) C dL_law_423 rfl ?_
  refine M_iconst (pc := 425) C dL_law_425 ?_
  refine M_iadd (pc := 426) C dL_law_426 ?_
  refine M_ialdA (pc := 427) C (g := i + 1) hA (by omega) (by omega) (by omega) dL_law_427 (fun r_427 => ?_)
  refine A_pV (pc := 428) C (a := 84) (c := 8) hR2 yw_X8_spoil lk_L_100 rfl (congrArg Prod.fst (tt_84 hT1)) hc_8 rfl dL_law_428 rfl (by decide) (by omega) ⟨by omega, by omega⟩ (fun r3 v3 hp => ?_)
  obtain ⟨z, rfl, w1, w2, w3⟩ := hp
  refine M_wr (pc := 431) ?_
  refine M_istore (pc := 431) C dL_law_431 (Nat.le_of_ble_eq_true rfl) ?_
  refine M_aload_n (pc := 433) C dL_law_433 rfl (by decide) ?_
  refine A_cV (pc := 434) C (a := 84) (c := 8) (c_X8_thrown hT1) yw_X8_thrown lk_L_85 rfl (congrArg Prod.fst (tt_84 hT1)) hc_8 rfl dL_law_434 rfl (by decide) (by omega) ⟨by omega, by omega⟩ ?_
  refine M_iload (pc := 437) C dL_law_437 rfl ?_
  refine M_icmp_eq (pc := 439) C (tgt := 444) (by rw [w1]; omega) (by omega) dL_law_439 (by decide) (fun _ => ?_) (fun qq => absurd w1 qq)
  refine M_iload (pc := 444) C dL_law_444 rfl ?_
  have fin : M κ N1 T1 1405 (LL q i (some (vI code)) (some (vI (wr z))) e7 e8) [] v3 (k + 1) (n + 6) Q := kk N1 T1 v3 _ _ _ _ _ _ (w3.up (by omega)) (by omega) (by omega)
  refine M_if_ne (pc := 446) C (tgt := 461) (by omega) dL_law_446 (by decide) (fun hne => M_goto (pc := 461) C (tgt := 1405) dL_law_461 (by decide) fin) (fun hz => ?_)
  refine M_aload_n (pc := 449) C dL_law_449 rfl (by decide) ?_
  refine M_iconst (pc := 450) C dL_law_450 ?_
  refine A_lald (pc := 451) C (a := 95) (q := 0) rfl (tt_95 hT1) (by decide) rfl (by decide) dL_law_451 (fun _ => ?_)
  refine M_iload (pc := 452) C dL_law_452 rfl ?_
  refine M_i2l (pc := 454) C (wr_i32 _) dL_law_454 ?_
  refine M_lcmpv (pc := 455) C (z := 0) (by rw [w2 hz]; exact lcmp_self _) dL_law_455 ?_
  exact M_if_eq (pc := 456) C (tgt := 461) (by decide) dL_law_456 (by decide) (fun _ => M_goto (pc := 461) C (tgt := 1405) dL_law_461 (by decide) fin) (fun qq => absurd rfl qq)
theorem L_heal {κ : KX} {nm : String} {d mc ms N q i len : Nat} {T : Ty} {v : Ct} {f : Nat → Int} {c : Int} {k n : Nat} {Q : State → Prop} {e5 e6 e7 e8 : Option MV} (C : CX κ (mLn nm) d mc ms) (hd : 40 ≤ d) (hA : ARG κ q len f) (hl : len ≤ 1536) (hi : i + 2 < len) (h : LI N T v c) (hc : c < 900000) (hN : N < 1000000000) (hk : k + 10 ≤ mc ∧ n + 139 ≤ ms) (kk : NX κ q i c k n Q) : M κ N T 464 (LL q i e5 e6 e7 e8) [] v k n Q := by
  have hT := h.1
  refine M_aload_n (pc := 464) C dL_law_464 rfl (by decide) ?_
  refine M_aloadA_n (pc := 465) C dL_law_465 rfl ?_
  refine M_iload (pc := 466) C dL_law_466 rfl ?_
  refine M_iconst (pc := 468) C dL_law_468 ?_
  refine M_iadd (pc := 469) C dL_law_469 ?_
  refine M_ialdA (pc := 470) C (g := i + 1) hA (by omega) (by omega) (by omega) dL_law_470 (fun r_470 => ?_)
  refine M_aload_n (pc := 471) C dL_law_471 rfl (by decide) ?_
  obtain ⟨code, dd, hdd, hR⟩ := p_heal h r_470 hc
  refine M_callE (pc := 472) C hR ye_heal ml_LL_101 rfl dL_law_472 rfl (by decide) (by omega) ⟨by omega, by omega⟩ (fun r1 N1 T1 v1 hp => ?_)
  obtain ⟨⟨rfl, h0, h2⟩, hT1, hN1, D, hD, hR2⟩ := hp
  refine M_istore (pc := 475) C dL_law_475 (Nat.le_of_ble_eq_true rfl) ?_
  refine M_aload_n (pc := 477) C dL_law_477 rfl (by decide) ?_
  refine M_aloadA_n (pc := 478) C dL_law_478 rfl ?_
  refine M_iload (pc := 479) C dL_law_479 rfl ?_
  refine M_iconst (pc := 481) C dL_law_481 ?_
  refine M_iadd (pc := 482) C dL_law_482 ?_
  refine M_ialdA (pc := 483) C (g := i + 1) hA (by omega) (by omega) (by omega) dL_law_483 (fun r_483 => ?_)
  refine A_pV (pc := 484) C (a := 84) (c := 8) hR2 yw_X8_heal lk_L_103 rfl (congrArg Prod.fst (tt_84 hT1)) hc_8 rfl dL_law_484 rfl (by decide) (by omega) ⟨by omega, by omega⟩ (fun r3 v3 hp => ?_)
  obtain ⟨z, rfl, w1, w2, w3⟩ := hp
  refine M_wr (pc := 487) ?_
  refine M_istore (pc := 487) C dL_law_487 (Nat.le_of_ble_eq_true rfl) ?_
  refine M_aload_n (pc := 489) C dL_law_489 rfl (by decide) ?_
  refine A_cV (pc := 490) C (a := 84) (c := 8) (c_X8_thrown hT1) yw_X8_thrown lk_L_85 rfl (congrArg Prod.fst (tt_84 hT1)) hc_8 rfl dL_law_490 rfl (by decide) (by omega) ⟨by omega, by omega⟩ ?_
  refine M_iload (pc := 493) C dL_law_493 rfl ?_
  refine M_icmp_eq (pc := 495) C (tgt := 500) (by rw [w1]; omega) (by omega) dL_law_495 (by decide) (fun _ => ?_) (fun qq => absurd w1 qq)
  refine M_iload (pc := 500) C dL_law_500 rfl ?_
  have fin : M κ N1 T1 1405 (LL q i (some (vI code)) (some (vI (wr z))) e7 e8) [] v3 (k + 1) (n + 6) Q := kk N1 T1 v3 _ _ _ _ _ _ (w3.up (by omega)) (by omega) (by omega)
  refine M_if_ne (pc := 502) C (tgt := 517) (by omega) dL_law_502 (by decide) (fun hne => M_goto (pc := 517) C (tgt := 1405) dL_law_517 (by decide) fin) (fun hz => ?_)
  refine M_aload_n (pc := 505) C dL_law_505 rfl (by decide) ?_
  refine M_iconst (pc := 506) C dL_law_506 ?_
  refine A_lald (pc := 507) C (a := 95) (q := 0) rfl (tt_95 hT1) (by decide) rfl (by decide) dL_law_507 (fun _ => ?_)
  refine M_iload (pc := 508) C dL_law_508 rfl ?_
  refine M_i2l (pc := 510) C (wr_i32 _) dL_law_510 ?_
  refine M_lcmpv (pc := 511) C (z := 0) (by rw [w2 hz]; exact lcmp_self _) dL_law_511 ?_
  exact M_if_eq (pc := 512) C (tgt := 517) (by decide) dL_law_512 (by decide) (fun _ => M_goto (pc := 517) C (tgt := 1405) dL_law_517 (by decide) fin) (fun qq => absurd rfl qq)
theorem L_set {κ : KX} {nm : String} {d mc ms N q i len : Nat} {T : Ty} {v : Ct} {f : Nat → Int} {c : Int} {k n : Nat} {Q : State → Prop} {e5 e6 e7 e8 : Option MV} (C : CX κ (mLn nm) d mc ms) (hd : 40 ≤ d) (hA : ARG κ q len f) (hl : len ≤ 1536) (hi : i + 2 < len) (h : LI N T v c) (hc : c < 900000) (hN : N < 1000000000) (hk : k + 10 ≤ mc ∧ n + 139 ≤ ms) (kk : NX κ q i c k n Q) : M κ N T 533 (LL q i e5 e6 e7 e8) [] v k n Q := by
  have hT := h.1
  refine M_aload_n (pc := 533) C dL_law_533 rfl (by decide) ?_
  refine M_aloadA_n (pc := 534) C dL_law_534 rfl ?_
  refine M_iload (pc := 535) C dL_law_535 rfl ?_
  refine M_iconst (pc := 537) C dL_law_537 ?_
  refine M_iadd (pc := 538) C dL_law_538 ?_
  refine M_ialdA (pc := 539) C (g := i + 1) hA (by omega) (by omega) (by omega) dL_law_539 (fun r_539 => ?_)
  refine M_aload_n (pc := 540) C dL_law_540 rfl (by decide) ?_
  obtain ⟨code, dd, hdd, hR⟩ := p_set h r_539 hc
  refine M_callE (pc := 541) C hR ye_set ml_LL_108 rfl dL_law_541 rfl (by decide) (by omega) ⟨by omega, by omega⟩ (fun r1 N1 T1 v1 hp => ?_)
  obtain ⟨⟨rfl, h0, h2⟩, hT1, hN1, D, hD, hR2⟩ := hp
  refine M_istore (pc := 544) C dL_law_544 (Nat.le_of_ble_eq_true rfl) ?_
  refine M_aload_n (pc := 546) C dL_law_546 rfl (by decide) ?_
  refine M_aloadA_n (pc := 547) C dL_law_547 rfl ?_
  refine M_iload (pc := 548) C dL_law_548 rfl ?_
  refine M_iconst (pc := 550) C dL_law_550 ?_
  refine M_iadd (pc := 551) C dL_law_551 ?_
  refine M_ialdA (pc := 552) C (g := i + 1) hA (by omega) (by omega) (by omega) dL_law_552 (fun r_552 => ?_)
  refine A_pV (pc := 553) C (a := 84) (c := 8) hR2 yw_X8_set lk_L_110 rfl (congrArg Prod.fst (tt_84 hT1)) hc_8 rfl dL_law_553 rfl (by decide) (by omega) ⟨by omega, by omega⟩ (fun r3 v3 hp => ?_)
  obtain ⟨z, rfl, w1, w2, w3⟩ := hp
  refine M_wr (pc := 556) ?_
  refine M_istore (pc := 556) C dL_law_556 (Nat.le_of_ble_eq_true rfl) ?_
  refine M_aload_n (pc := 558) C dL_law_558 rfl (by decide) ?_
  refine A_cV (pc := 559) C (a := 84) (c := 8) (c_X8_thrown hT1) yw_X8_thrown lk_L_85 rfl (congrArg Prod.fst (tt_84 hT1)) hc_8 rfl dL_law_559 rfl (by decide) (by omega) ⟨by omega, by omega⟩ ?_
  refine M_iload (pc := 562) C dL_law_562 rfl ?_
  refine M_icmp_eq (pc := 564) C (tgt := 569) (by rw [w1]; omega) (by omega) dL_law_564 (by decide) (fun _ => ?_) (fun qq => absurd w1 qq)
  refine M_iload (pc := 569) C dL_law_569 rfl ?_
  have fin : M κ N1 T1 1405 (LL q i (some (vI code)) (some (vI (wr z))) e7 e8) [] v3 (k + 1) (n + 6) Q := kk N1 T1 v3 _ _ _ _ _ _ (w3.up (by omega)) (by omega) (by omega)
  refine M_if_ne (pc := 571) C (tgt := 586) (by omega) dL_law_571 (by decide) (fun hne => M_goto (pc := 586) C (tgt := 1405) dL_law_586 (by decide) fin) (fun hz => ?_)
  refine M_aload_n (pc := 574) C dL_law_574 rfl (by decide) ?_
  refine M_iconst (pc := 575) C dL_law_575 ?_
  refine A_lald (pc := 576) C (a := 95) (q := 0) rfl (tt_95 hT1) (by decide) rfl (by decide) dL_law_576 (fun _ => ?_)
  refine M_iload (pc := 577) C dL_law_577 rfl ?_
  refine M_i2l (pc := 579) C (wr_i32 _) dL_law_579 ?_
  refine M_lcmpv (pc := 580) C (z := 0) (by rw [w2 hz]; exact lcmp_self _) dL_law_580 ?_
  exact M_if_eq (pc := 581) C (tgt := 586) (by decide) dL_law_581 (by decide) (fun _ => M_goto (pc := 586) C (tgt := 1405) dL_law_586 (by decide) fin) (fun qq => absurd rfl qq)
theorem L_append {κ : KX} {nm : String} {d mc ms N q i len : Nat} {T : Ty} {v : Ct} {f : Nat → Int} {c : Int} {k n : Nat} {Q : State → Prop} {e5 e6 e7 e8 : Option MV} (C : CX κ (mLn nm) d mc ms) (hd : 40 ≤ d) (hA : ARG κ q len f) (hl : len ≤ 1536) (hi : i + 2 < len) (h : LI N T v c) (hc : c < 900000) (hN : N < 1000000000) (hk : k + 10 ≤ mc ∧ n + 139 ≤ ms) (kk : NX κ q i c k n Q) : M κ N T 589 (LL q i e5 e6 e7 e8) [] v k n Q := by
  have hT := h.1
  refine M_aload_n (pc := 589) C dL_law_589 rfl (by decide) ?_
  refine M_aloadA_n (pc := 590) C dL_law_590 rfl ?_
  refine M_iload (pc := 591) C dL_law_591 rfl ?_
  refine M_iconst (pc := 593) C dL_law_593 ?_
  refine M_iadd (pc := 594) C dL_law_594 ?_
  refine M_ialdA (pc := 595) C (g := i + 1) hA (by omega) (by omega) (by omega) dL_law_595 (fun r_595 => ?_)
  refine M_aload_n (pc := 596) C dL_law_596 rfl (by decide) ?_
  obtain ⟨code, dd, hdd, hR⟩ := p_append h r_595
  refine M_callE (pc := 597) C hR ye_append ml_LL_111 rfl dL_law_597 rfl (by decide) (by omega) ⟨by omega, by omega⟩ (fun r1 N1 T1 v1 hp => ?_)
  obtain ⟨⟨rfl, h0, h2⟩, hT1, hN1, D, hD, hR2⟩ := hp
  refine M_istore (pc := 600) C dL_law_600 (Nat.le_of_ble_eq_true rfl) ?_
  refine M_aload_n (pc := 602) C dL_law_602 rfl (by decide) ?_
  refine M_aloadA_n (pc := 603) C dL_law_603 rfl ?_
  refine M_iload (pc := 604) C dL_law_604 rfl ?_
  refine M_iconst (pc := 606) C dL_law_606 ?_
  refine M_iadd (pc := 607) C dL_law_607 ?_
  refine M_ialdA (pc := 608) C (g := i + 1) hA (by omega) (by omega) (by omega) dL_law_608 (fun r_608 => ?_)
  refine A_pV (pc := 609) C (a := 84) (c := 8) hR2 yw_X8_append lk_L_113 rfl (congrArg Prod.fst (tt_84 hT1)) hc_8 rfl dL_law_609 rfl (by decide) (by omega) ⟨by omega, by omega⟩ (fun r3 v3 hp => ?_)
  obtain ⟨z, rfl, w1, w2, w3⟩ := hp
  refine M_wr (pc := 612) ?_
  refine M_istore (pc := 612) C dL_law_612 (Nat.le_of_ble_eq_true rfl) ?_
  refine M_aload_n (pc := 614) C dL_law_614 rfl (by decide) ?_
  refine A_cV (pc := 615) C (a := 84) (c := 8) (c_X8_thrown hT1) yw_X8_thrown lk_L_85 rfl (congrArg Prod.fst (tt_84 hT1)) hc_8 rfl dL_law_615 rfl (by decide) (by omega) ⟨by omega, by omega⟩ ?_
  refine M_iload (pc := 618) C dL_law_618 rfl ?_
  refine M_icmp_eq (pc := 620) C (tgt := 625) (by rw [w1]; omega) (by omega) dL_law_620 (by decide) (fun _ => ?_) (fun qq => absurd w1 qq)
  refine M_iload (pc := 625) C dL_law_625 rfl ?_
  have fin : M κ N1 T1 1405 (LL q i (some (vI code)) (some (vI (wr z))) e7 e8) [] v3 (k + 1) (n + 6) Q := kk N1 T1 v3 _ _ _ _ _ _ (w3.up (by omega)) (by omega) (by omega)
  refine M_if_ne (pc := 627) C (tgt := 642) (by omega) dL_law_627 (by decide) (fun hne => M_goto (pc := 642) C (tgt := 1405) dL_law_642 (by decide) fin) (fun hz => ?_)
  refine M_aload_n (pc := 630) C dL_law_630 rfl (by decide) ?_
  refine M_iconst (pc := 631) C dL_law_631 ?_
  refine A_lald (pc := 632) C (a := 95) (q := 0) rfl (tt_95 hT1) (by decide) rfl (by decide) dL_law_632 (fun _ => ?_)
  refine M_iload (pc := 633) C dL_law_633 rfl ?_
  refine M_i2l (pc := 635) C (wr_i32 _) dL_law_635 ?_
  refine M_lcmpv (pc := 636) C (z := 0) (by rw [w2 hz]; exact lcmp_self _) dL_law_636 ?_
  exact M_if_eq (pc := 637) C (tgt := 642) (by decide) dL_law_637 (by decide) (fun _ => M_goto (pc := 642) C (tgt := 1405) dL_law_642 (by decide) fin) (fun qq => absurd rfl qq)
theorem L_run {κ : KX} {nm : String} {d mc ms N q i len : Nat} {T : Ty} {v : Ct} {f : Nat → Int} {c : Int} {k n : Nat} {Q : State → Prop} {e5 e6 e7 e8 : Option MV} (C : CX κ (mLn nm) d mc ms) (hd : 40 ≤ d) (hA : ARG κ q len f) (hl : len ≤ 1536) (hi : i + 2 < len) (h : LI N T v c) (hc : c < 900000) (hN : N < 1000000000) (hk : k + 10 ≤ mc ∧ n + 139 ≤ ms) (kk : NX κ q i c k n Q) : M κ N T 671 (LL q i e5 e6 e7 e8) [] v k n Q := by
  have hT := h.1
  refine M_aload_n (pc := 671) C dL_law_671 rfl (by decide) ?_
  refine M_aload_n (pc := 672) C dL_law_672 rfl (by decide) ?_
  obtain ⟨code, dd, hdd, hR⟩ := p_run h hc
  refine M_callE (pc := 673) C hR ye_run ml_LL_122 rfl dL_law_673 rfl (by decide) (by omega) ⟨by omega, by omega⟩ (fun r1 N1 T1 v1 hp => ?_)
  obtain ⟨⟨rfl, h0, h2⟩, hT1, hN1, D, hD, hR2⟩ := hp
  refine M_istore (pc := 676) C dL_law_676 (Nat.le_of_ble_eq_true rfl) ?_
  refine M_aload_n (pc := 678) C dL_law_678 rfl (by decide) ?_
  refine A_pV (pc := 679) C (a := 84) (c := 8) hR2 yw_X8_run lk_L_125 rfl (congrArg Prod.fst (tt_84 hT1)) hc_8 rfl dL_law_679 rfl (by decide) (by omega) ⟨by omega, by omega⟩ (fun r3 v3 hp => ?_)
  obtain ⟨z, rfl, w1, w2, w3⟩ := hp
  refine M_wr (pc := 682) ?_
  refine M_istore (pc := 682) C dL_law_682 (Nat.le_of_ble_eq_true rfl) ?_
  refine M_aload_n (pc := 684) C dL_law_684 rfl (by decide) ?_
  refine A_cV (pc := 685) C (a := 84) (c := 8) (c_X8_thrown hT1) yw_X8_thrown lk_L_85 rfl (congrArg Prod.fst (tt_84 hT1)) hc_8 rfl dL_law_685 rfl (by decide) (by omega) ⟨by omega, by omega⟩ ?_
  refine M_iload (pc := 688) C dL_law_688 rfl ?_
  refine M_icmp_eq (pc := 690) C (tgt := 695) (by rw [w1]; omega) (by omega) dL_law_690 (by decide) (fun _ => ?_) (fun qq => absurd w1 qq)
  refine M_iload (pc := 695) C dL_law_695 rfl ?_
  have fin : M κ N1 T1 1405 (LL q i (some (vI code)) (some (vI (wr z))) e7 e8) [] v3 (k + 1) (n + 6) Q := kk N1 T1 v3 _ _ _ _ _ _ (w3.up (by omega)) (by omega) (by omega)
  refine M_if_ne (pc := 697) C (tgt := 712) (by omega) dL_law_697 (by decide) (fun hne => M_goto (pc := 712) C (tgt := 1405) dL_law_712 (by decide) fin) (fun hz => ?_)
  refine M_aload_n (pc := 700) C dL_law_700 rfl (by decide) ?_
  refine M_iconst (pc := 701) C dL_law_701 ?_
  refine A_lald (pc := 702) C (a := 95) (q := 0) rfl (tt_95 hT1) (by decide) rfl (by decide) dL_law_702 (fun _ => ?_)
  refine M_iload (pc := 703) C dL_law_703 rfl ?_
  refine M_i2l (pc := 705) C (wr_i32 _) dL_law_705 ?_
  refine M_lcmpv (pc := 706) C (z := 0) (by rw [w2 hz]; exact lcmp_self _) dL_law_706 ?_
  exact M_if_eq (pc := 707) C (tgt := 712) (by decide) dL_law_707 (by decide) (fun _ => M_goto (pc := 712) C (tgt := 1405) dL_law_712 (by decide) fin) (fun qq => absurd rfl qq)
theorem L_keep {κ : KX} {nm : String} {d mc ms N q i len : Nat} {T : Ty} {v : Ct} {f : Nat → Int} {c : Int} {k n : Nat} {Q : State → Prop} {e5 e6 e7 e8 : Option MV} (C : CX κ (mLn nm) d mc ms) (hd : 40 ≤ d) (hA : ARG κ q len f) (hl : len ≤ 1536) (hi : i + 2 < len) (h : LI N T v c) (hc : c < 900000) (hN : N < 1000000000) (hk : k + 10 ≤ mc ∧ n + 139 ≤ ms) (kk : NX κ q i c k n Q) : M κ N T 715 (LL q i e5 e6 e7 e8) [] v k n Q := by
  have hT := h.1
  refine M_aload_n (pc := 715) C dL_law_715 rfl (by decide) ?_
  refine M_aloadA_n (pc := 716) C dL_law_716 rfl ?_
  refine M_iload (pc := 717) C dL_law_717 rfl ?_
  refine M_iconst (pc := 719) C dL_law_719 ?_
  refine M_iadd (pc := 720) C dL_law_720 ?_
  refine M_ialdA (pc := 721) C (g := i + 1) hA (by omega) (by omega) (by omega) dL_law_721 (fun r_721 => ?_)
  refine M_aload_n (pc := 722) C dL_law_722 rfl (by decide) ?_
  obtain ⟨code, dd, mc2, ms2, ⟨hdd, hmc2, hms2⟩, hR⟩ := p_keep h r_721 hN
  refine M_callE (pc := 723) C hR ye_keep ml_LL_126 rfl dL_law_723 rfl (by decide) (by omega) ⟨by omega, by omega⟩ (fun r1 N1 T1 v1 hp => ?_)
  obtain ⟨⟨rfl, h0, h2⟩, hT1, hN1, D, hD, hR2⟩ := hp
  refine M_istore (pc := 726) C dL_law_726 (Nat.le_of_ble_eq_true rfl) ?_
  refine M_aload_n (pc := 728) C dL_law_728 rfl (by decide) ?_
  refine M_aloadA_n (pc := 729) C dL_law_729 rfl ?_
  refine M_iload (pc := 730) C dL_law_730 rfl ?_
  refine M_iconst (pc := 732) C dL_law_732 ?_
  refine M_iadd (pc := 733) C dL_law_733 ?_
  refine M_ialdA (pc := 734) C (g := i + 1) hA (by omega) (by omega) (by omega) dL_law_734 (fun r_734 => ?_)
  refine A_pV (pc := 735) C (a := 84) (c := 8) hR2 yw_X8_keep lk_L_128 rfl (congrArg Prod.fst (tt_84 hT1)) hc_8 rfl dL_law_735 rfl (by decide) (by omega) ⟨by omega, by omega⟩ (fun r3 v3 hp => ?_)
  obtain ⟨z, rfl, w1, w2, w3⟩ := hp
  refine M_wr (pc := 738) ?_
  refine M_istore (pc := 738) C dL_law_738 (Nat.le_of_ble_eq_true rfl) ?_
  refine M_aload_n (pc := 740) C dL_law_740 rfl (by decide) ?_
  refine A_cV (pc := 741) C (a := 84) (c := 8) (c_X8_thrown hT1) yw_X8_thrown lk_L_85 rfl (congrArg Prod.fst (tt_84 hT1)) hc_8 rfl dL_law_741 rfl (by decide) (by omega) ⟨by omega, by omega⟩ ?_
  refine M_iload (pc := 744) C dL_law_744 rfl ?_
  refine M_icmp_eq (pc := 746) C (tgt := 751) (by rw [w1]; omega) (by omega) dL_law_746 (by decide) (fun _ => ?_) (fun qq => absurd w1 qq)
  refine M_iload (pc := 751) C dL_law_751 rfl ?_
  have fin : M κ N1 T1 1405 (LL q i (some (vI code)) (some (vI (wr z))) e7 e8) [] v3 (k + mc2) (n + ms2) Q := kk N1 T1 v3 _ _ _ _ _ _ (w3.up (by omega)) (by omega) (by omega)
  refine M_if_ne (pc := 753) C (tgt := 768) (by omega) dL_law_753 (by decide) (fun hne => M_goto (pc := 768) C (tgt := 1405) dL_law_768 (by decide) fin) (fun hz => ?_)
  refine M_aload_n (pc := 756) C dL_law_756 rfl (by decide) ?_
  refine M_iconst (pc := 757) C dL_law_757 ?_
  refine A_lald (pc := 758) C (a := 95) (q := 0) rfl (tt_95 hT1) (by decide) rfl (by decide) dL_law_758 (fun _ => ?_)
  refine M_iload (pc := 759) C dL_law_759 rfl ?_
  refine M_i2l (pc := 761) C (wr_i32 _) dL_law_761 ?_
  refine M_lcmpv (pc := 762) C (z := 0) (by rw [w2 hz]; exact lcmp_self _) dL_law_762 ?_
  exact M_if_eq (pc := 763) C (tgt := 768) (by decide) dL_law_763 (by decide) (fun _ => M_goto (pc := 768) C (tgt := 1405) dL_law_768 (by decide) fin) (fun qq => absurd rfl qq)
