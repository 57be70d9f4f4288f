theorem emN_bd (F : Nat → Int) : 0 ≤ emN F := (sumN_bd (g := fun b => Bi (decide (F b = 0))) (a := 1) (by decide) 24 (fun _ _ => Bi_bd _)).1
/-- a plan that can be carried out, for the disk as it is in v, with what it makes -/
def PLN (v v1 : Ct) (r r3 : Nat → Int) : Prop := ∃ n : Nat, v1 71 2 = (n : Int) ∧ n ≤ 10 ∧ (∀ q, q < n → coOk (v1 72) (v1 74) (v1 75) (v 5) q) ∧
  DR (feI (coI (v1 72) (v1 74) (v1 75) (v 9) (v 7) (v 6) (v 2) n).2.2.2 (v 5) (coI (v1 72) (v1 74) (v1 75) (v 9) (v 7) (v 6) (v 2) n).2.2.1 (coI (v1 72) (v1 74) (v1 75) (v 9) (v 7) (v 6) (v 2) n).2.1 24) (v 3) (v 4) (v 5) (coI (v1 72) (v1 74) (v1 75) (v 9) (v 7) (v 6) (v 2) n).2.2.1 (coI (v1 72) (v1 74) (v1 75) (v 9) (v 7) (v 6) (v 2) n).2.1 (v 8) (coI (v1 72) (v1 74) (v1 75) (v 9) (v 7) (v 6) (v 2) n).1 r3 ∧
  (∀ g, g < 10 → (coI (v1 72) (v1 74) (v1 75) (v 9) (v 7) (v 6) (v 2) n).1 g = v 9 g ∨ (coI (v1 72) (v1 74) (v1 75) (v 9) (v 7) (v 6) (v 2) n).1 g = wr (v 9 g + 1)) ∧ r3 0 = r 0 ∧ r3 1 = wr (r 1 + 1) ∧ r3 2 = r 2
theorem pkV_s {r r3 : Nat → Int} (h : pkO r = some r3) : pkV r = cntK r 2 - cntK r3 2 := by unfold pkV; rw [h]
theorem pkV_n {r : Nat → Int} (h : pkO r = none) : pkV r = -1 := by unfold pkV; rw [h]
theorem pkRR_s {r r3 : Nat → Int} (h : pkO r = some r3) : pkRR r = r3 := by unfold pkRR; rw [h]
theorem pkRR_n {r : Nat → Int} (h : pkO r = none) : pkRR r = r := by unfold pkRR; rw [h]
section PKD
variable {N : Nat} {T : Ty} {v : Ct} {r : Nat → Int} {c : Int}
theorem coP_or {EQ NB NS P S B K : Nat → Int} {n : Nat} (hn : n ≤ (srL r 150).length) (hE : ∀ q, q < n → EQ q = (((srL r 150).getD q 0 : Nat) : Int)) : ∀ a, a ≤ n → (∀ g, (∀ q, q < a → (srL r 150).getD q 0 ≠ g) → (coI EQ NB NS P S B K a).1 g = P g) ∧ ∀ g, (coI EQ NB NS P S B K a).1 g = P g ∨ (coI EQ NB NS P S B K a).1 g = wr (P g + 1) := by
  intro a
  induction a with
  | zero => intro _; exact ⟨fun g _ => rfl, fun g => Or.inl rfl⟩
  | succ a ih =>
    intro ha
    obtain ⟨i1, i2⟩ := ih (by omega)
    have e : (coI EQ NB NS P S B K (a + 1)).1 = rs (coI EQ NB NS P S B K a).1 (EQ a).toNat (wr ((coI EQ NB NS P S B K a).1 (EQ a).toNat + 1)) := rfl
    have hself := i1 ((srL r 150).getD a 0) (fun q hq e2 => by
      have := srL_inj (by omega) (by omega) e2
      omega)
    rw [e, hE a (by omega), Int.toNat_natCast, hself]
    refine ⟨fun g hg => ?_, fun g => ?_⟩
    · rw [rs_ne (fun e2 => hg a (Nat.lt_succ_self a) e2.symm)]
      exact i1 g (fun q hq => hg q (by omega))
    · by_cases e2 : g = (srL r 150).getD a 0
      · subst e2; rw [rs_eq]; exact Or.inr rfl
      · rw [rs_ne e2]; exact i2 g
theorem c_X4_planR (hT : TT T) (hV : DV v 1 r c) : RunsP mX4_plan 4 0 0 [vR 70, vR 1] N T v N T (fun r1 v1 => r1 = some (vI (pkV r)) ∧ (∀ a, (a < 71 ∨ 77 ≤ a) → v1 a = v a) ∧ ((pkV r = -1 ∧ pkO r = none) ∨ (pkV r ≠ -1 ∧ ∃ r3, pkO r = some r3 ∧ PLN v v1 r r3))) := by
  obtain ⟨H, C⟩ := hV
  have H : DR (v 2) (v 3) (v 4) (v 5) (v 6) (v 7) (v 8) (v 9) r := H
  have h := c_X4_plan (N := N) (v := v) (NB := v 74) (NS := v 75) (F := v 76) (E := v 72) (Lg := v 73) (X := v 71) hT H.DI (H.srb _ _)
  rw [← sa_self v 74, ← sa_self v 75, ← sa_self v 76, ← sa_self v 72, ← sa_self v 73, ← sa_self v 71] at h
  obtain ⟨s1, s2⟩ := H.srt (v 72) (v 73)
  have hF : ∀ b, b < 24 → flN (v 2) (v 6) (v 8) (v 76) 24 b = if tpB (v 2) (v 6) (v 8) b = true then 0 else 16 := fun b hb => flN_at _ _ _ _ 24 b hb
  have hL : ∀ q, q < (srL r 150).length → (clI (v 5) (v 8) (v 72) (v 73) 10).2.1 q = ro r ((srL r 150).getD q 0) 1 % 16 := fun q hq => (s2 q hq).2
  have hE : ∀ q, q < (srL r 150).length → (clI (v 5) (v 8) (v 72) (v 73) 10).1 q = (((srL r 150).getD q 0 : Nat) : Int) := fun q hq => (s2 q hq).1
  refine RunsP.imp h ?_
  rintro r1 v1 ⟨NB2, NS2, F2, rfl, hor⟩
  have hfr : ∀ a, (a < 71 ∨ 77 ≤ a) → sa (sa (sa (sa (sa (sa v 74 NB2) 75 NS2) 76 F2) 72 ((clI (v 5) (v 8) (v 72) (v 73) 10).1)) 73 ((clI (v 5) (v 8) (v 72) (v 73) 10).2.1)) 71 (rs (v 71) 2 (((clI (v 5) (v 8) (v 72) (v 73) 10).2.2 : Nat) : Int)) a = v a := fun a ha => by
    rw [sa_ne (by omega), sa_ne (by omega), sa_ne (by omega), sa_ne (by omega), sa_ne (by omega), sa_ne (by omega)]
  rw [s1] at hor
  rcases hor with ⟨o1, rfl⟩ | ⟨o1, rfl, o2⟩
  · have hn := (H.pkf (v 74) (v 75) hL hF).1 o1
    exact ⟨by rw [pkV_n hn], hfr, Or.inl ⟨pkV_n hn, hn⟩⟩
  · obtain ⟨k1, r3, k2, k3, k4, k5, k6, k7⟩ := H.pack (v 74) (v 75) hL hE hF o2 o1
    have hv := pkV_s k2
    have hem := emN_bd F2
    refine ⟨by rw [hv, k4], hfr, Or.inr ⟨by omega, r3, k2, (srL r 150).length, ?_, srL_len r 150, k1, k3, fun g _ => (coP_or (Nat.le_refl _) hE _ (Nat.le_refl _)).2 g, k5, k6, k7⟩⟩
    show rs (v 71) 2 (((clI (v 5) (v 8) (v 72) (v 73) 10).2.2 : Nat) : Int) 2 = _
    rw [rs_eq, s1]
theorem c_X4_carryOutR {v0 : Ct} {r3 : Nat → Int} (hT : TT T) (hV : DV v0 1 r c) (hc : c < 1000000) (hP : PLN v0 v r r3) (hsame : ∀ a, a < 71 → v a = v0 a) : RunsP mX4_carryOut 2 0 0 [vR 70, vR 1] N T v N T (fun r1 v1 => r1 = none ∧ DV v1 1 r3 (c + 1) ∧ oth v v1) := by
  obtain ⟨H, C⟩ := hV
  have H : DR (v0 2) (v0 3) (v0 4) (v0 5) (v0 6) (v0 7) (v0 8) (v0 9) r := H
  have C : CNT (v0 1) (v0 9) r c := C
  obtain ⟨n, p1, p2, p3, p4, p5, p6, p7, p8⟩ := hP
  have e1 := hsame 1 (by decide)
  have e2 := hsame 2 (by decide)
  have e3 := hsame 3 (by decide)
  have e4 := hsame 4 (by decide)
  have e5 := hsame 5 (by decide)
  have e6 := hsame 6 (by decide)
  have e7 := hsame 7 (by decide)
  have e8 := hsame 8 (by decide)
  have e9 := hsame 9 (by decide)
  have h := c_X4_carryOut (N := N) (v := v) (P := v 9) (W := v 8) (S := v 7) (B := v 6) (Z := v 5) (Rk := v 4) (O := v 3) (K := v 2) (G := v 1) (n := n) hT (by rw [e5, e6, e7, e8]; exact H.DI) p1 p2 (by rw [e5]; exact p3)
  rw [sa9, e1, e2, e3, e4, e5, e6, e7, e8, e9] at h
  refine RunsP.imp h ?_
  rintro r1 v1 ⟨rfl, rfl⟩
  obtain ⟨c1, c2, c3, c4, c5, c6, c7⟩ := C
  refine ⟨rfl, ⟨p4, ?_⟩, oth9 _ _ _ _ _ _ _ _ _ _⟩
  show CNT (rs (v0 1) 9 (wr (v0 1 9 + 1))) (coI (v 72) (v 74) (v 75) (v0 9) (v0 7) (v0 6) (v0 2) n).1 r3 (c + 1)
  have hw : wr (r 1 + 1) = r 1 + 1 := wr_id (by omega)
  refine ⟨by rw [rs_ne (by decide)]; omega, by rw [rs_eq, c2, p7], by rw [rs_ne (by decide)]; omega, by omega, by omega, by omega, fun f hf => ?_⟩
  have h8 := c7 f hf
  rcases p5 f hf with q | q
  · omega
  · rw [q, wr_id (by omega)]; omega
theorem c_X1_bySetsR (hT : TT T) (hV : DV v 1 r c) : RunsP mX1_bySets 4 0 0 [vR 77, vR 1] N T v N T (fun r1 v1 => r1 = some (vI (fbG r)) ∧ ∀ a, (a < 78 ∨ 84 ≤ a) → v1 a = v a) := by
  obtain ⟨H, C⟩ := hV
  have H : DR (v 2) (v 3) (v 4) (v 5) (v 6) (v 7) (v 8) (v 9) r := H
  obtain ⟨s1, s2⟩ := H.srt (v 79) (v 80)
  have h := c_X1_bySets (N := N) (v := v) (SB := v 82) (SL := v 83) (E := v 79) (Lg := v 80) (X := v 78) (n := (srL r 150).length) hT H.DI s1 (H.srb _ _)
  rw [← sa_self v 82, ← sa_self v 83, ← sa_self v 79, ← sa_self v 80, ← sa_self v 78, H.few0 (v 82) (v 83) (fun q hq => (s2 q hq).2)] at h
  refine RunsP.imp h ?_
  rintro r1 v1 ⟨rfl, rfl⟩
  exact ⟨rfl, fun a ha => by rw [sa_ne (by omega), sa_ne (by omega), sa_ne (by omega), sa_ne (by omega), sa_ne (by omega)]⟩
theorem c_X1_byTryingR (hT : TT T) (hV : DV v 1 r c) : RunsP mX1_byTrying 11 0 0 [vR 77, vR 1] N T v N T (fun r1 v1 => r1 = some (vI (fbG r)) ∧ ∀ a, (a < 78 ∨ 84 ≤ a) → v1 a = v a) := by
  obtain ⟨H, C⟩ := hV
  have H : DR (v 2) (v 3) (v 4) (v 5) (v 6) (v 7) (v 8) (v 9) r := H
  obtain ⟨s1, s2⟩ := H.srt (v 79) (v 80)
  have h := c_X1_byTrying (N := N) (v := v) (Ld := v 81) (E := v 79) (Lg := v 80) (X := v 78) (n := (srL r 150).length) hT H.DI s1 (H.srb _ _)
  rw [← sa_self v 81, ← sa_self v 79, ← sa_self v 80, ← sa_self v 78, H.few1 (Ld := zlN (v 81) 10) (fun q hq => (s2 q hq).2) (fun b hb => if_pos hb) rfl] at h
  refine RunsP.imp h ?_
  rintro r1 v1 ⟨rfl, rfl⟩
  exact ⟨rfl, fun a ha => by rw [sa_ne (by omega), sa_ne (by omega), sa_ne (by omega), sa_ne (by omega)]⟩
end PKD
theorem DV.set {v : Ct} {r : Nat → Int} {c x : Int} (h : DV v 1 r c) (hx : x = 0 ∨ x = 1) : DV (up v 1 10 x) 1 (rs r 2 x) c := by
  obtain ⟨H, C⟩ := h
  have e : ∀ k, 1 ≤ k → up v 1 10 x (1 + k) = v (1 + k) := fun k hk => by funext q; rw [up_ne (by omega)]
  refine ⟨?_, ?_⟩
  · rw [e 1 (by decide), e 2 (by decide), e 3 (by decide), e 4 (by decide), e 5 (by decide), e 6 (by decide), e 7 (by decide), e 8 (by decide)]
    exact H.congr3 (fun b _ => ⟨rfl, rfl, rfl⟩) (fun f _ => ⟨rfl, rfl, rfl, rfl, rfl⟩) (fun j h1 _ => rs_ne (by omega) _)
  · rw [e 8 (by decide)]
    obtain ⟨c1, c2, c3, c4, c5, c6, c7⟩ := C
    refine ⟨by rw [up_n2 (by decide), rs_ne (by decide)]; exact c1, by rw [up_n2 (by decide), rs_ne (by decide)]; exact c2, by rw [up_eq, rs_eq], by rw [rs_eq]; exact hx, by rw [rs_ne (by decide)]; exact c5, by rw [rs_ne (by decide)]; exact c6, c7⟩
/-- the cells that the class's calls leave: slots, text, the reference's -/
def fr (v v1 : Ct) : Prop := ∀ a, ((66 ≤ a ∧ a ≤ 68) ∨ 84 ≤ a) → v1 a = v a
