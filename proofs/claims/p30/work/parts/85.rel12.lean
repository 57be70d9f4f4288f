section REL
variable {K O Rk Z B S W P r K2 O2 Rk2 Z2 B2 S2 W2 P2 r2 : Nat → Int}
theorem DR.congr3 (H : DR K O Rk Z B S W P r) (h1 : ∀ b, b < 24 → K2 b = K b ∧ O2 b = O b ∧ Rk2 b = Rk b) (h2 : ∀ f, f < 10 → Z2 f = Z f ∧ B2 f = B f ∧ S2 f = S f ∧ W2 f = W f ∧ P2 f = P f) (h3 : ∀ j, 3 ≤ j → j < 207 → r2 j = r j) : DR K2 O2 Rk2 Z2 B2 S2 W2 P2 r2 := by
  have hro : ∀ f w, f < 10 → w < 18 → ro r2 f w = ro r f w := fun f w hf hw => h3 _ (by omega) (by omega)
  refine ⟨fun f hf => ?_, fun b hb => ?_, fun f hf => ?_, ?_⟩
  · obtain ⟨e1, e2, e3, e4, e5⟩ := h2 f hf
    have h := H.1 f hf
    unfold DRf at h ⊢
    rw [e1, e2, e3, e4, e5, hro f 0 hf (by decide), hro f 1 hf (by decide), hro f 2 hf (by decide), hro f 3 hf (by decide), hro f 4 hf (by decide), hro f 5 hf (by decide)]
    rcases h with h | h
    · exact Or.inl ⟨h.1, fun w hw => by rw [hro f w hf hw]; exact h.2.1 w hw, h.2.2⟩
    · exact Or.inr h
  · obtain ⟨e1, e2, e3⟩ := h1 b hb
    obtain ⟨k1, k2, k3, k4, k5, k6, k7, k8⟩ := H.2.1 b hb
    refine ⟨by rw [e1, h3 (3 + b) (Nat.le_add_right 3 b) (Nat.lt_of_lt_of_le (Nat.add_lt_add_left hb 3) (by decide))]; exact k1, by rw [e1]; exact k2, ?_, by rw [e1, e2]; exact k4, by rw [e1, e2]; exact k5, ?_, ?_, ?_⟩
    · rw [e2, e3]
      rcases k3 with h | ⟨f, k, hf, q1, q2, q3, q4⟩
      · exact Or.inl h
      · have h200 := (H.DI f hf).1
        exact Or.inr ⟨f, k, hf, q1, q2, by rw [(h2 f hf).1]; exact q3, by rw [hro f (6 + k) hf (by omega)]; exact q4⟩
    · rw [e1]
      intro q
      obtain ⟨f, hf, h⟩ := k6 q
      exact ⟨f, hf, by rw [(h2 f hf).2.1]; exact h⟩
    · rw [e1]
      intro f hf q
      rw [(h2 f hf).2.1] at q
      exact k7 f hf q
    · rw [e1, e2]
      intro q f hf h
      rw [(h2 f hf).2.1] at h
      rw [(h2 f hf).2.2.2.1]
      exact k8 q f hf h
  · intro k hk
    rw [(h2 f hf).1] at hk
    obtain ⟨b, hb, q1, q2, q3⟩ := H.2.2.1 f hf k hk
    have h200 := (H.DI f hf).1
    exact ⟨b, hb, by rw [hro f (6 + k) hf (by omega)]; exact q1, by rw [(h1 b hb).2.1]; exact q2, by rw [(h1 b hb).2.2]; exact q3⟩
  · intro f g hf hg hne hB hB1
    rw [(h2 f hf).2.1] at hB hB1
    rw [(h2 g hg).2.1] at hB
    rw [(h2 f hf).1, (h2 g hg).1, (h2 f hf).2.2.1, (h2 g hg).2.2.1]
    exact H.2.2.2 f g hf hg hne hB hB1
end REL
theorem Met_imp {l : Launch} {y : MethodName} {ws : List Cond} {rm : Room} {Pc : Array Value → State → Prop} {Qc Qc2 : Array Value → State → Outcome → State → Prop} {mc ms : Nat} {free : Addr → Prop} (hM : Met l y ws rm Pc Qc mc ms free) (h : ∀ a st o t, Qc a st o t → Qc2 a st o t) : Met l y ws rm Pc Qc2 mc ms free := by
  intro p e h1 h2 h3 s m args below hf ha hP hK
  obtain ⟨n, o, a1, a2, a3, a4, a5⟩ := hM p e h1 h2 h3 s m args below hf ha hP hK
  exact ⟨n, o, a1, a2, a3, h _ _ _ _ a4, a5⟩
theorem RunsP.imp {Y : MD} {d mc ms : Nat} {as : List MV} {N : Nat} {T : Ty} {v : Ct} {N' : Nat} {T' : Ty} {Post Post2 : Option MV → Ct → Prop} (h : RunsP Y d mc ms as N T v N' T' Post) (hi : ∀ r v, Post r v → Post2 r v) : RunsP Y d mc ms as N T v N' T' Post2 := by
  intro l b δ hst
  exact Met_imp (h l b δ hst) (fun _ _ _ _ ⟨r, v, h1, h2⟩ => ⟨r, v, hi r v h1, h2⟩)
/-- what is counted, and its bounds -/
def CNT (G P r : Nat → Int) (c : Int) : Prop := G 8 = r 0 ∧ G 9 = r 1 ∧ G 10 = r 2 ∧ (r 2 = 0 ∨ r 2 = 1) ∧ (0 ≤ r 0 ∧ r 0 ≤ c) ∧ (0 ≤ r 1 ∧ r 1 ≤ c) ∧ ∀ f, f < 10 → 0 ≤ P f ∧ P f ≤ c
def DV (v : Ct) (a : Nat) (r : Nat → Int) (c : Int) : Prop := DR (v (a + 1)) (v (a + 2)) (v (a + 3)) (v (a + 4)) (v (a + 5)) (v (a + 6)) (v (a + 7)) (v (a + 8)) r ∧ CNT (v a) (v (a + 8)) r c
def oth (v v1 : Ct) : Prop := ∀ a, (a = 0 ∨ 10 ≤ a) → v1 a = v a
theorem CNT.mono {G P r : Nat → Int} {c c2 : Int} (h : CNT G P r c) (hc : c ≤ c2) : CNT G P r c2 := by
  obtain ⟨h1, h2, h3, h4, h5, h6, h7⟩ := h
  exact ⟨h1, h2, h3, h4, by omega, by omega, fun f hf => by have := h7 f hf; omega⟩
theorem DV.mono {v : Ct} {a : Nat} {r : Nat → Int} {c c2 : Int} (h : DV v a r c) (hc : c ≤ c2) : DV v a r c2 := ⟨h.1, h.2.mono hc⟩
theorem CNT.up1 {G P P2 r r2 : Nat → Int} {c : Int} (h : CNT G P r c) (hc : c < 1000000) (hr : ∀ j, j < 3 → r2 j = r j) (hP : ∀ g, g < 10 → P2 g = P g ∨ P2 g = wr (P g + 1) ∨ P2 g = 0) : CNT G P2 r2 (c + 1) := by
  obtain ⟨h1, h2, h3, h4, h5, h6, h7⟩ := h
  have e0 := hr 0 (by decide)
  have e1 := hr 1 (by decide)
  have e2 := hr 2 (by decide)
  refine ⟨by omega, by omega, by omega, by omega, by omega, by omega, fun f hf => ?_⟩
  have h8 := h7 f hf
  rcases hP f hf with q | q | q
  · omega
  · rw [q, wr_id (by omega)]; omega
  · omega
theorem CNT.rf {G P r : Nat → Int} {c : Int} (h : CNT G P r c) (hc : c < 1000000) : CNT (rs G 8 (wr (G 8 + 1))) P (rfR r) (c + 1) := by
  obtain ⟨h1, h2, h3, h4, h5, h6, h7⟩ := h
  have e0 : rfR r 0 = r 0 + 1 := by unfold rfR; rw [rs_eq, wr_id (by omega)]
  have e1 : rfR r 1 = r 1 := rs_ne (by decide) _
  have e2 : rfR r 2 = r 2 := rs_ne (by decide) _
  refine ⟨by rw [rs_eq, h1, e0, wr_id (by omega)], by rw [rs_ne (by decide), e1]; exact h2, by rw [rs_ne (by decide), e2]; exact h3, by omega, by omega, by omega, fun f hf => ?_⟩
  have := h7 f hf
  omega
theorem DR.rf {K O Rk Z B S W P r : Nat → Int} (H : DR K O Rk Z B S W P r) : DR K O Rk Z B S W P (rfR r) := H.congr3 (fun b _ => ⟨rfl, rfl, rfl⟩) (fun f _ => ⟨rfl, rfl, rfl, rfl, rfl⟩) (fun j h1 _ => rs_ne (by omega) _)
theorem rbQ_or {f : Nat} {K Z B S O Rk P : Nat → Int} {rule : Int} {z s : Nat} (g : Nat) : rbQ f K Z B S O Rk P rule z s g = P g ∨ rbQ f K Z B S O Rk P rule z s g = wr (P g + 1) ∨ rbQ f K Z B S O Rk P rule z s g = 0 := by
  unfold rbQ
  split
  · exact Or.inl rfl
  · by_cases e : g = f
    · subst e; rw [rs_eq]; exact Or.inr (Or.inl rfl)
    · rw [rs_ne e]; exact Or.inl rfl
theorem sa9 (v : Ct) : sa (sa (sa (sa (sa (sa (sa (sa (sa v 9 (v 9)) 8 (v 8)) 7 (v 7)) 6 (v 6)) 5 (v 5)) 4 (v 4)) 3 (v 3)) 2 (v 2)) 1 (v 1) = v := by
  rw [← sa_self v 9, ← sa_self v 8, ← sa_self v 7, ← sa_self v 6, ← sa_self v 5, ← sa_self v 4, ← sa_self v 3, ← sa_self v 2, ← sa_self v 1]
theorem oth9 (v : Ct) (P W S B Z Rk O K G : Nat → Int) : oth v (sa (sa (sa (sa (sa (sa (sa (sa (sa v 9 P) 8 W) 7 S) 6 B) 5 Z) 4 Rk) 3 O) 2 K) 1 G) := fun a ha => by
  rw [sa_ne (by omega), sa_ne (by omega), sa_ne (by omega), sa_ne (by omega), sa_ne (by omega), sa_ne (by omega), sa_ne (by omega), sa_ne (by omega), sa_ne (by omega)]
section DSK
variable {N : Nat} {T : Ty} {v : Ct} {r : Nat → Int} {c : Int}
theorem c_X0_addFileR {s : Nat} (hT : TT T) (hD : DV v 1 r c) (hc : c < 1000000) (hs : s ≤ 200) : RunsP mX0_addFile 4 0 0 [vR 1, vI ((s : Nat) : Int)] N T v N T (fun r1 v1 => r1 = some (vI (crV r s)) ∧ DV v1 1 (crR r s) (c + 1) ∧ oth v v1) := by
  obtain ⟨H, C⟩ := hD
  have H : DR (v 2) (v 3) (v 4) (v 5) (v 6) (v 7) (v 8) (v 9) r := H
  have C : CNT (v 1) (v 9) r c := C
  obtain ⟨h1, h2⟩ := H.create hs
  cases hr : hrB (v 2) (v 5) (v 6) (v 7) (s : Int) with
  | false =>
    have h := c_X0_addFile_n (N := N) (v := v) (P := v 9) (W := v 8) (S := v 7) (B := v 6) (Z := v 5) (Rk := v 4) (O := v 3) (K := v 2) (G := v 1) hT H.DI hs hr
    rw [sa9] at h
    refine RunsP.imp h ?_
    rintro r1 v1 ⟨rfl, rfl⟩
    rw [crV_n (h1 hr), crR_n (h1 hr)]
    exact ⟨rfl, ⟨H.rf, C.rf hc⟩, oth9 _ _ _ _ _ _ _ _ _ _⟩
  | true =>
    obtain ⟨f, r3, hf, hln, hfn, hcr, hdr, hlo⟩ := h2 hr
    have h := c_X0_addFile_y (N := N) (v := v) (P := v 9) (W := v 8) (S := v 7) (B := v 6) (Z := v 5) (Rk := v 4) (O := v 3) (K := v 2) (G := v 1) hT H.DI hs hr hln
    rw [sa9, C.2.2.1] at h
    refine RunsP.imp h ?_
    rintro r1 v1 ⟨rfl, rfl⟩
    rw [crV_s hcr, crR_s hcr, hfn]
    exact ⟨rfl, ⟨hdr, C.up1 hc hlo (fun g _ => rbQ_or g)⟩, oth9 _ _ _ _ _ _ _ _ _ _⟩
theorem opV_s {p : Int × (Nat → Int)} : opV (some p) = p.1 := rfl
theorem opR_s {R : Nat → Int} {p : Int × (Nat → Int)} : opR R (some p) = p.2 := rfl
theorem opV_n : opV none = -1 := rfl
theorem opR_n {R : Nat → Int} : opR R none = rfR R := rfl
theorem c_X0_extendR {f n : Nat} (hT : TT T) (hD : DV v 1 r c) (hc : c < 1000000) (hf : f < 10) (hfi : ro r f 0 = 1) (hn : 1 ≤ n ∧ n ≤ 200) : RunsP mX0_extend 4 0 0 [vR 1, vI ((f : Nat) : Int), vI ((n : Nat) : Int)] N T v N T (fun r1 v1 => r1 = some (vI (opV (gwO r f n))) ∧ DV v1 1 (opR r (gwO r f n)) (c + 1) ∧ oth v v1) := by
  obtain ⟨H, C⟩ := hD
  have H : DR (v 2) (v 3) (v 4) (v 5) (v 6) (v 7) (v 8) (v 9) r := H
  have C : CNT (v 1) (v 9) r c := C
  have hz : v 5 f ≠ -1 := by
    rcases (H.1 f hf).ex with ⟨-, q⟩ | ⟨q, -⟩
    · omega
    · exact q
  obtain ⟨z, hz2⟩ : ∃ z : Nat, v 5 f = (z : Int) := ⟨(v 5 f).toNat, by have := (H.wf hf hz).2.2.2.2; omega⟩
  obtain ⟨h1, h2, h3⟩ := H.grow hf hz2 hn
  have hb := goN_bd (v 2) (v 5) (v 6) (v 7) (v 8) f (n : Int)
  rcases (show goN (v 2) (v 5) (v 6) (v 7) (v 8) f (n : Int) = -1 ∨ goN (v 2) (v 5) (v 6) (v 7) (v 8) f (n : Int) = 0 ∨ goN (v 2) (v 5) (v 6) (v 7) (v 8) f (n : Int) = 1 by omega) with hg | hg | hg
  · have h := c_X0_extend_m (N := N) (v := v) (P := v 9) (W := v 8) (S := v 7) (B := v 6) (Z := v 5) (Rk := v 4) (O := v 3) (K := v 2) (G := v 1) hT H.DI hf hz2 hn hg
    rw [sa9] at h
    refine RunsP.imp h ?_
    rintro r1 v1 ⟨rfl, rfl⟩
    rw [h1 hg, opV_n, opR_n]
    exact ⟨rfl, ⟨H.rf, C.rf hc⟩, oth9 _ _ _ _ _ _ _ _ _ _⟩
  · obtain ⟨r3, k1, k2, k3⟩ := h2 hg
    have h := c_X0_extend_0 (N := N) (v := v) (P := v 9) (W := v 8) (S := v 7) (B := v 6) (Z := v 5) (Rk := v 4) (O := v 3) (K := v 2) (G := v 1) hT H.DI hf hz2 hn hg
    rw [sa9] at h
    refine RunsP.imp h ?_
    rintro r1 v1 ⟨rfl, rfl⟩
    rw [k1, opV_s, opR_s]
    exact ⟨rfl, ⟨k2, C.up1 hc k3 (fun g _ => Or.inl rfl)⟩, oth9 _ _ _ _ _ _ _ _ _ _⟩
  · obtain ⟨r3, k1, k2, k3⟩ := h3 hg
    have h := c_X0_extend_1 (N := N) (v := v) (P := v 9) (W := v 8) (S := v 7) (B := v 6) (Z := v 5) (Rk := v 4) (O := v 3) (K := v 2) (G := v 1) hT H.DI hf hz2 hn hg
    rw [sa9, C.2.2.1] at h
    refine RunsP.imp h ?_
    rintro r1 v1 ⟨rfl, rfl⟩
    rw [k1, opV_s, opR_s]
    exact ⟨rfl, ⟨k2, C.up1 hc k3 (fun g _ => rbQ_or g)⟩, oth9 _ _ _ _ _ _ _ _ _ _⟩
end DSK
