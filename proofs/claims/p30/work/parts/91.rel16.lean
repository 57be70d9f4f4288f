def DRx (r : Nat → Int) : Prop := ∃ K O Rk Z B S W P, DR K O Rk Z B S W P r
theorem DRx.RI {r : Nat → Int} (h : DRx r) : RI r := by
  obtain ⟨K, O, Rk, Z, B, S, W, P, H⟩ := h
  exact H.RI
theorem DRx.do {r : Nat → Int} (h : DRx r) {x : Int} {a b : Nat} (hx : x = 43 ∨ x = 45 ∨ x = 60 ∨ x = 62) (ha : a ≤ 200) (hf : x ≠ 43 → a < 10) (hb : x = 60 ∨ x = 62 → 1 ≤ b ∧ b ≤ 200) : DRx (doR r x a b) ∧ i32 (doV r x a b) := by
  obtain ⟨K, O, Rk, Z, B, S, W, P, H⟩ := h
  unfold doR doV
  by_cases h43 : x = 43
  · rw [if_pos h43, if_pos h43]
    obtain ⟨h1, h2⟩ := H.create ha
    cases hr : hrB K Z B S (a : Int) with
    | false =>
      rw [crR_n (h1 hr), crV_n (h1 hr)]
      exact ⟨⟨_, _, _, _, _, _, _, _, H.rf⟩, by decide⟩
    | true =>
      obtain ⟨f, r3, q1, q2, q3, q4, q5, -⟩ := h2 hr
      rw [crR_s q4, crV_s q4, q3]
      exact ⟨⟨_, _, _, _, _, _, _, _, q5⟩, by omega⟩
  · rw [if_neg h43, if_neg h43]
    have hf := hf h43
    by_cases hfi : ro r a 0 = 1
    · rw [if_pos hfi, if_pos hfi]
      have hz := H.zf hf hfi
      have hw := H.wf hf hz
      obtain ⟨z, hz2⟩ : ∃ z : Nat, Z a = (z : Int) := ⟨(Z a).toNat, by omega⟩
      by_cases h45 : x = 45
      · rw [if_pos h45, if_pos h45]
        obtain ⟨k1, k2, -⟩ := H.del hf hz
        have h1 := dtV_bd K Z B S a
        have h2 := dwS2_bd (a : Int) 0 (dtK K Z B S a) O Rk 24
        exact ⟨⟨_, _, _, _, _, _, _, _, k1⟩, by rw [← k2]; omega⟩
      · rw [if_neg h45, if_neg h45]
        have hb := hb (by omega)
        by_cases h62 : x = 62
        · rw [if_pos h62, if_pos h62]
          obtain ⟨h1, h2, h3⟩ := H.grow hf hz2 hb
          have hbd := goN_bd K Z B S W a (b : Int)
          rcases (show goN K Z B S W a (b : Int) = -1 ∨ goN K Z B S W a (b : Int) = 0 ∨ goN K Z B S W a (b : Int) = 1 by omega) with hg | hg | hg
          · rw [h1 hg, opV_n, opR_n]
            exact ⟨⟨_, _, _, _, _, _, _, _, H.rf⟩, by decide⟩
          · obtain ⟨r3, k1, k2, -⟩ := h2 hg
            rw [k1, opV_s, opR_s]
            exact ⟨⟨_, _, _, _, _, _, _, _, k2⟩, show i32 0 by decide⟩
          · obtain ⟨r3, k1, k2, -⟩ := h3 hg
            rw [k1, opV_s, opR_s]
            exact ⟨⟨_, _, _, _, _, _, _, _, k2⟩, show i32 1 by decide⟩
        · rw [if_neg h62, if_neg h62]
          obtain ⟨h1, h2, h3, h4⟩ := H.cut hf hz2 hb.1
          by_cases hg : W a = 1 ∨ z < b
          · rw [h1 hg, opV_n, opR_n]
            exact ⟨⟨_, _, _, _, _, _, _, _, H.rf⟩, by decide⟩
          · have hval : i32 ((z - b : Nat) : Int) := by omega
            by_cases hd : (z - b) / 16 = z / 16
            · by_cases hm : (z - b) % 16 = 0
              · obtain ⟨r3, k1, k2, -⟩ := h3 (by omega) (by omega) hd hm
                rw [k1, opV_s, opR_s]
                exact ⟨⟨_, _, _, _, _, _, _, _, k2⟩, hval⟩
              · obtain ⟨r3, k1, k2, -⟩ := h4 (by omega) (by omega) hd hm
                rw [k1, opV_s, opR_s]
                exact ⟨⟨_, _, _, _, _, _, _, _, k2⟩, hval⟩
            · obtain ⟨r3, k1, k2, -⟩ := h2 (by omega) (by omega) hd
              rw [k1, opV_s, opR_s]
              exact ⟨⟨_, _, _, _, _, _, _, _, k2⟩, hval⟩
    · rw [if_neg hfi, if_neg hfi]
      exact ⟨⟨_, _, _, _, _, _, _, _, H⟩, by decide⟩
section RUN
variable {U D H A R : Nat → Int} {n : Nat}
/-- a well text: the reader takes all of it, and it may end there -/
def acc (U D : Nat → Int) (n : Nat) : Prop := dOk U (rs D 0 0) 0 n ∧ (dS U (rs D 0 0) 0 n 0 = 4 ∨ dS U (rs D 0 0) 0 n 0 = 5)
/-- an order of a well text: where it ends, what the reader knows there -/
theorem acc_ord {p : Nat} (hn : n ≤ 60) (h : acc U D n) (hp : p ≤ n) (hd : dS U (rs D 0 0) 0 p 0 = 0) (H : Nat → Int) :
    p < n ∧ ∃ a, 1 ≤ a ∧ pRp U n p H = p + a ∧ p + a ≤ n ∧ pRk U n p H = U p ∧ (U p = 43 ∨ U p = 45 ∨ U p = 60 ∨ U p = 62) ∧ dS U (rs D 0 0) 0 (p + a) 1 = U p ∧ (dS U (rs D 0 0) 0 (p + a) 0 = 4 ∨ dS U (rs D 0 0) 0 (p + a) 0 = 5) ∧ (p + a < n → U (p + a) = 59 ∧ dS U (rs D 0 0) 0 (p + a + 1) 0 = 0) ∧ (∀ j, p ≤ j → j < p + a → 43 ≤ U j ∧ U j ≠ 59) ∧
      (U p = 43 → dS U (rs D 0 0) 0 (p + a) 3 = pRh U n p H 0 ∧ 0 ≤ dS U (rs D 0 0) 0 (p + a) 3 ∧ dS U (rs D 0 0) 0 (p + a) 3 ≤ 200) ∧ (U p = 45 → dS U (rs D 0 0) 0 (p + a) 2 = pRh U n p H 0 ∧ 0 ≤ dS U (rs D 0 0) 0 (p + a) 2 ∧ dS U (rs D 0 0) 0 (p + a) 2 ≤ 9) ∧
      (U p = 60 ∨ U p = 62 → dS U (rs D 0 0) 0 (p + a) 2 = pRh U n p H 0 ∧ (0 ≤ dS U (rs D 0 0) 0 (p + a) 2 ∧ dS U (rs D 0 0) 0 (p + a) 2 ≤ 9) ∧ dS U (rs D 0 0) 0 (p + a) 3 = pRh U n p H 1 ∧ 1 ≤ dS U (rs D 0 0) 0 (p + a) 3 ∧ dS U (rs D 0 0) 0 (p + a) 3 ≤ 200) := by
  obtain ⟨h1, h2⟩ := h
  have hpn : p < n := by
    rcases Nat.lt_or_ge p n with q | q
    · exact q
    · have e : p = n := by omega
      rw [e] at hd
      omega
  obtain ⟨a, c1, c2, c3, c4, c5⟩ := ord (U := U) (D := dS U (rs D 0 0) 0 p) (H := H) hn hp hd
  have ea : dS U (rs D 0 0) 0 (p + a) = dS U (dS U (rs D 0 0) 0 p) p a := by rw [dS_add, Nat.zero_add]
  have hstep : p + a < n → oTb (dS U (dS U (rs D 0 0) 0 p) p a) (dS U (dS U (rs D 0 0) 0 p) p a 0).toNat (U (p + a)) = true := fun q => by
    have := h1 (p + a) q
    rw [ea, Nat.zero_add] at this
    exact this
  have hk : pRk U n p H ≠ 0 := fun q => by
    obtain ⟨e1, e2, e3⟩ := c5 q
    by_cases q2 : p + a < n
    · rw [hstep q2] at e1
      exact absurd (e1 q2) (by decide)
    · have e : p + a = n := by omega
      rw [← ea, e] at e2 e3
      omega
  obtain ⟨d1, d2, d3, d4, d5, d6, d7, d8, d9, d10⟩ := c4 hk
  refine ⟨hpn, a, d1, c1, c2, d2, d3, by rw [ea]; exact d4, by rw [ea]; exact d5, fun q => ?_, d7, by rw [ea]; exact d8, by rw [ea]; exact d9, by rw [ea]; exact d10⟩
  have h59 : U (p + a) = 59 := Decidable.byContradiction fun q2 => by
    have := d6 q q2
    rw [hstep q] at this
    cases this
  refine ⟨h59, ?_⟩
  show oTd (dS U (rs D 0 0) 0 (p + a)) (dS U (rs D 0 0) 0 (p + a) 0).toNat (U (0 + (p + a))) 0 = 0
  rw [Nat.zero_add, h59, ea]
  rcases d5 with q3 | q3
  · rw [q3]
    show (if (59 : Int) = 59 then rs (dS U (dS U (rs D 0 0) 0 p) p a) 0 0 else oDg (dS U (dS U (rs D 0 0) 0 p) p a) 59) 0 = 0
    rw [if_pos rfl, rs_eq]
  · rw [q3]
    show oSc (dS U (dS U (rs D 0 0) 0 p) p a) 59 0 = 0
    unfold oSc
    rw [if_pos rfl, rs_eq]
/-- the numbers read lie in their range -/
def HOK (H : Nat → Int) : Prop := (0 ≤ H 0 ∧ H 0 ≤ 200) ∧ 0 ≤ H 1 ∧ H 1 ≤ 200
theorem HOK.set {H : Nat → Int} (h : HOK H) {k : Nat} (hk : k = 0 ∨ k = 1) {x : Int} (hx : 0 ≤ x ∧ x ≤ 200) : HOK (rs H k x) := by
  unfold HOK
  rcases hk with rfl | rfl
  · rw [rs_eq, rs_ne (by decide)]; exact ⟨hx, h.2⟩
  · rw [rs_eq, rs_ne (by decide)]; exact ⟨h.1, hx⟩
theorem pNh_ok {p k : Nat} {l : Int} (hl : 0 ≤ l) {H : Nat → Int} (h : HOK H) (hk : k = 0 ∨ k = 1) : HOK (pNh U n p H k l) := by
  unfold pNh
  cases hs : pSee U n p (48 + l) 57 with
  | false => rw [if_neg Bool.false_ne_true]; exact h
  | true =>
    rw [if_pos rfl]
    have hb := nuI_bd (k := k) (H := H) hl hs 60
    have ho : ∀ j, j ≠ k → ∀ i, (nuI U n k p H i).2 j = H j := fun j hj i => by
      refine itN_inv (I := fun S : Nat × (Nat → Int) => S.2 j = H j) (rs_ne hj _) (fun S _ hS => ?_) i
      show rs S.2 k (10 * S.2 k + U S.1 - 48) j = H j
      rw [rs_ne hj]
      exact hS
    unfold HOK
    rcases hk with rfl | rfl
    · rw [ho 1 (by decide) 60]; exact ⟨hb.2, h.2⟩
    · rw [ho 0 (by decide) 60]; exact ⟨h.1, hb.2⟩
theorem pRh_ok {p : Nat} {H : Nat → Int} (h : HOK H) : HOK (pRh U n p H) := by
  unfold pRh
  split
  · unfold pRdS
    split
    · exact pNh_ok (by decide) h (Or.inl rfl)
    · split
      · show HOK (pDh U n (p + 1) H 0 0)
        unfold pDh
        split
        · rename_i hs
          have := pSee_lt hs
          exact h.set (Or.inl rfl) (by omega)
        · exact h
      · split
        · rename_i hs
          have h1 := pSee_lt hs
          have h2 : HOK (rs H 0 (U (p + 1) - 48)) := h.set (Or.inl rfl) (by omega)
          split
          · exact pNh_ok (by decide) h2 (Or.inr rfl)
          · exact h2
        · exact h
  · exact h
/-- what holds before each order -/
def rnJ (U D : Nat → Int) (n : Nat) (S : RnS) : Prop := DRx S.2.2.2.2.2 ∧ S.2.1 ≤ n + 1 ∧ (S.1 = true → S.2.1 = n + 1 ∨ (S.2.1 < n ∧ dS U (rs D 0 0) 0 S.2.1 0 = 0)) ∧ HOK S.2.2.2.1
theorem rnJ_ok (hn : n ≤ 60) (h : acc U D n) {S : RnS} (hS : rnJ U D n S) (hc : rnC n S = true) : rnOk U n S ∧ rnJ U D n (rnT U n S) ∧ S.2.1 < n ∧ dS U (rs D 0 0) 0 S.2.1 0 = 0 := by
  obtain ⟨j1, j2, j3, j4⟩ := hS
  obtain ⟨k1, k2⟩ := Bool.and_eq_true_iff.mp hc
  have k2 := of_decide_eq_true k2
  obtain ⟨hp, hd⟩ : S.2.1 < n ∧ dS U (rs D 0 0) 0 S.2.1 0 = 0 := by
    rcases j3 k1 with q | q
    · omega
    · exact q
  obtain ⟨hpn, a, a1, a2, a3, a4, a5, a6, a7, a8, a9, a10, a11, a12⟩ := acc_ord hn h (Nat.le_of_lt hp) hd S.2.2.2.1
  have ex : rnX U n S = U S.2.1 := a4
  have h0 : 0 ≤ rnH U n S 0 ∧ rnH U n S 0 ≤ 200 ∧ (U S.2.1 ≠ 43 → rnH U n S 0 < 10) := by
    show 0 ≤ pRh U n S.2.1 S.2.2.2.1 0 ∧ pRh U n S.2.1 S.2.2.2.1 0 ≤ 200 ∧ (U S.2.1 ≠ 43 → pRh U n S.2.1 S.2.2.2.1 0 < 10)
    rcases a5 with q | q | q | q
    · have := a10 q; omega
    · have := a11 q; omega
    · have := a12 (Or.inl q); omega
    · have := a12 (Or.inr q); omega
  have h1 : U S.2.1 = 60 ∨ U S.2.1 = 62 → 1 ≤ rnH U n S 1 ∧ rnH U n S 1 ≤ 200 := fun q => by
    show 1 ≤ pRh U n S.2.1 S.2.2.2.1 1 ∧ pRh U n S.2.1 S.2.2.2.1 1 ≤ 200
    have := a12 q
    omega
  have hH : HOK (rnH U n S) := pRh_ok j4
  have hdo := j1.do (x := rnX U n S) (a := (rnH U n S 0).toNat) (b := (rnH U n S 1).toNat) (by rw [ex]; exact a5) (by omega) (fun q => by rw [ex] at q; have := h0.2.2 q; omega) (fun q => by rw [ex] at q; have := h1 q; omega)
  refine ⟨⟨by rw [ex]; omega, hH.1, hH.2, fun q => by rw [ex] at q; exact h0.2.2 q, fun q => by rw [ex] at q; exact (h1 (Or.inl q)).1, j1.RI, hdo.2⟩, ⟨hdo.1, ?_, fun _ => ?_, hH⟩, hp, hd⟩
  · show pRp U n S.2.1 S.2.2.2.1 + 1 ≤ n + 1
    omega
  · show pRp U n S.2.1 S.2.2.2.1 + 1 = n + 1 ∨ (pRp U n S.2.1 S.2.2.2.1 + 1 < n ∧ dS U (rs D 0 0) 0 (pRp U n S.2.1 S.2.2.2.1 + 1) 0 = 0)
    rw [a2]
    by_cases q : S.2.1 + a < n
    · obtain ⟨b1, b2⟩ := a8 q
      refine Or.inr ⟨?_, b2⟩
      rcases Nat.lt_or_ge (S.2.1 + a + 1) n with q2 | q2
      · exact q2
      · have e : S.2.1 + a + 1 = n := by omega
        rw [e] at b2
        have := h.2
        omega
    · exact Or.inl (by omega)
theorem acc_n (h : acc U D n) : 0 < n := by
  rcases Nat.eq_zero_or_pos n with q | q
  · subst q
    have := h.2
    have e : dS U (rs D 0 0) 0 0 0 = 0 := rs_eq _ _ _
    omega
  · exact q
theorem rn_all (hn : n ≤ 60) (h : acc U D n) (hR : DRx R) (hH : HOK H) : ∀ i, rnJ U D n (rnI U n H A R i) := by
  intro i
  refine itN_inv (I := rnJ U D n) (show rnJ U D n (true, 0, 0, H, A, R) from ⟨hR, Nat.zero_le _, fun _ => Or.inr ⟨acc_n h, rs_eq D 0 0⟩, hH⟩) (fun S hc hS => (rnJ_ok hn h hS hc).2.1) i
end RUN
theorem pkV_i (r : Nat → Int) : i32 (pkV r) := by
  unfold pkV
  split
  · rename_i r3 _
    have h1 := cntK_bd r 2
    have h2 := cntK_bd r3 2
    omega
  · decide
