/-! .. packing, and the fewest shared blocks that the tails need -/
theorem srL_congr {r r2 : Nat → Int} (h : ∀ f, f < 10 → isPk r2 f = isPk r f ∧ ro r2 f 1 = ro r f 1) : ∀ j, srL r2 j = srL r j := by
  intro j
  induction j with
  | zero => rfl
  | succ j ih =>
    obtain ⟨h1, h2⟩ := h (j % 10) (Nat.mod_lt _ (by decide))
    show (if srC r2 (j / 10) (j % 10) = true then srL r2 j ++ [j % 10] else srL r2 j) = (if srC r (j / 10) (j % 10) = true then srL r j ++ [j % 10] else srL r j)
    unfold srC
    rw [h1, h2, ih]
theorem srD_lt (r : Nat → Int) (k : Nat) : (srL r 150).getD k 0 < 10 := by
  rcases Nat.lt_or_ge k (srL r 150).length with h | h
  · rw [List.getD_eq_getElem?_getD, List.getElem?_eq_getElem h]
    exact (srL_mem.mp (List.getElem_mem h)).1
  · rw [List.getD_eq_getElem?_getD, List.getElem?_eq_none h]
    decide
theorem fbG_congr {r r2 : Nat → Int} (h : ∀ f, f < 10 → isPk r2 f = isPk r f ∧ ro r2 f 1 = ro r f 1) : fbG r2 = fbG r := by
  have e := srL_congr h 150
  have e2 : tlT r2 = tlT r := by
    funext k
    unfold tlT
    rw [e, (h _ (srD_lt r k)).2]
  rw [fbG_V, fbG_V, e, e2]
theorem sumN_inj {m : Nat} : ∀ (n : Nat) (h : Nat → Int) (e : Nat → Nat), (∀ f, 0 ≤ h f) → (∀ k, k < n → e k < m) → (∀ j k, j < n → k < n → e j = e k → j = k) → sumN (fun k => h (e k)) n ≤ sumN h m := by
  intro n
  induction n with
  | zero => intro h e h0 _ _; exact (show (0 : Int) ≤ sumN h m from by
      have := sumN_le (g := fun _ => 0) (g2 := h) m (fun i _ => h0 i)
      have e0 : ∀ q : Nat, sumN (fun _ => 0) q = 0 := by
        intro q
        induction q with
        | zero => rfl
        | succ q ih => show sumN (fun _ => 0) q + 0 = 0; omega
      rw [e0] at this
      exact this)
  | succ n ih =>
    intro h e h0 h1 h2
    have hne : ∀ k, k < n → e k ≠ e n := fun k hk q => by
      have := h2 k n (by omega) (by omega) q
      omega
    have i1 := ih (rs h (e n) 0) e (fun f => by
      by_cases q : f = e n
      · rw [q, rs_eq]
        exact Int.le_refl _
      · rw [rs_ne q]
        exact h0 f) (fun k hk => h1 k (by omega)) (fun j k hj hk => h2 j k (by omega) (by omega))
    have i2 : sumN (fun k => rs h (e n) 0 (e k)) n = sumN (fun k => h (e k)) n := sumN_congr n (fun k hk => rs_ne (hne k hk) _)
    have i3 := sumN_one (g := rs h (e n) 0) (g2 := h) (b0 := e n) (x := h (e n)) (fun b hb => (rs_ne hb _).symm) (by rw [rs_eq]; omega) m
    rw [if_pos (h1 n (by omega))] at i3
    show sumN (fun k => h (e k)) n + h (e n) ≤ sumN h m
    omega
/-- how many shared blocks lie before one -/
def rkN (K : Nat → Int) : Nat → Nat
  | 0 => 0
  | b + 1 => rkN K b + (if K b = 2 then 1 else 0)
theorem rkN_le {K : Nat → Int} {a : Nat} : ∀ n, a ≤ n → rkN K a ≤ rkN K n := by
  intro n
  induction n with
  | zero => intro h; rw [show a = 0 by omega]; exact Nat.le_refl _
  | succ n ih =>
    intro h
    by_cases e : a = n + 1
    · rw [e]; exact Nat.le_refl _
    · have := ih (by omega)
      show rkN K a ≤ rkN K n + _
      omega
theorem rkN_lt {K : Nat → Int} {a n : Nat} (h : a < n) (hK : K a = 2) : rkN K a < rkN K n := by
  have h1 : rkN K (a + 1) ≤ rkN K n := rkN_le n (by omega)
  have h2 : rkN K (a + 1) = rkN K a + 1 := by
    show rkN K a + (if K a = 2 then 1 else 0) = _
    rw [if_pos hK]
  omega
theorem rkN_inj {K : Nat → Int} {a b : Nat} (ha : K a = 2) (hb : K b = 2) (h : rkN K a = rkN K b) : a = b := by
  rcases Nat.lt_trichotomy a b with q | q | q
  · have := rkN_lt q ha
    omega
  · exact q
  · have := rkN_lt q hb
    omega
theorem rkN_sum (K : Nat → Int) : ∀ n, sumN (fun b => Bi (decide (K b = 2))) n = ((rkN K n : Nat) : Int) := by
  intro n
  induction n with
  | zero => rfl
  | succ n ih =>
    show sumN _ n + Bi (decide (K n = 2)) = ((rkN K n + (if K n = 2 then 1 else 0) : Nat) : Int)
    rw [ih]
    by_cases h : K n = 2
    · rw [if_pos h, decide_eq_true h]
      rfl
    · rw [if_neg h, decide_eq_false h]
      exact Int.add_zero _
section P30C
variable {K O Rk Z B S W P r K2 O2 Rk2 B2 S2 P2 r2 : Nat → Int}
theorem DR.row3 (H : DR K O Rk Z B S W P r) (H2 : DR K2 O2 Rk2 Z B2 S2 W P2 r2) {f : Nat} (hf : f < 10) : ro r2 f 0 = ro r f 0 ∧ ro r2 f 1 = ro r f 1 ∧ ro r2 f 2 = ro r f 2 := by
  rcases H.1 f hf with ⟨a0, a1, a2, -⟩ | ⟨a0, a1, a2, a3, -⟩ <;> rcases H2.1 f hf with ⟨b0, b1, b2, -⟩ | ⟨b0, b1, b2, b3, -⟩
  · have := a1 1 (by decide)
    have := a1 2 (by decide)
    have := b1 1 (by decide)
    have := b1 2 (by decide)
    omega
  · omega
  · omega
  · omega
theorem DR.few_same (H : DR K O Rk Z B S W P r) (H2 : DR K2 O2 Rk2 Z B2 S2 W P2 r2) : fbG r2 = fbG r := fbG_congr (fun f hf => by
  obtain ⟨h0, h1, h2⟩ := H.row3 H2 hf
  refine ⟨?_, h1⟩
  unfold isPk
  rw [h0, h1, h2])
theorem DR.fewF (H : DR K O Rk Z B S W P r) : 0 < sumN (fun f => Bi (brB r f)) 10 ∨ fbG r ≤ cntK r 2 := by
  by_cases hb : sumN (fun f => Bi (brB r f)) 10 ≤ 0
  · right
    have hnb := (sumB_0 (p := brB r) 10).mp hb
    have hk : ∀ k, k < (srL r 150).length → ∃ b : Nat, b < 24 ∧ B ((srL r 150).getD k 0) = (b : Int) ∧ K b = 2 := fun k hk => by
      obtain ⟨a1, a2, a3, a4⟩ := H.srp hk
      obtain ⟨-, -, c1, c2, c3⟩ := (H.pk a1).1 a2
      obtain ⟨e0, -, e2, -, -, -, e5, -⟩ := (H.1 _ a1).tl c3
      refine ⟨(B ((srL r 150).getD k 0)).toNat, by omega, by omega, ?_⟩
      obtain ⟨-, -, -, -, -, -, d7, d8⟩ := H.2.1 (B ((srL r 150).getD k 0)).toNat (by omega)
      rcases d7 _ a1 (by omega) with q | q
      · exact q
      · have := d8 q _ a1 (Or.inr (by omega))
        omega
    rw [fbG_V, ← H.cnt, rkN_sum]
    refine opt_le (c := fun k => rkN K (B ((srL r 150).getD k 0)).toNat) (DR.tl0 r) (srL_len r 150) (fun k hk2 => ?_) (fun j hj => ?_)
    · obtain ⟨b, b1, b2, b3⟩ := hk k hk2
      show rkN K (B ((srL r 150).getD k 0)).toNat < _
      rw [b2, Int.toNat_natCast]
      exact rkN_lt b1 b3
    · by_cases hex : ∃ k, k < (srL r 150).length ∧ rkN K (B ((srL r 150).getD k 0)).toNat = j
      · obtain ⟨k0, hk0, ej⟩ := hex
        obtain ⟨b, b1, b2, b3⟩ := hk k0 hk0
        rw [b2, Int.toNat_natCast] at ej
        have h1 : ldS (tlT r) (ge1 0) (fun k => rkN K (B ((srL r 150).getD k 0)).toNat) j (srL r 150).length = sumN (fun k => (fun f => if hasT r f (b : Int) = true then ro r f 1 % 16 else 0) ((srL r 150).getD k 0)) (srL r 150).length := sumN_congr _ (fun k hk2 => by
          obtain ⟨b', b1', b2', b3'⟩ := hk k hk2
          obtain ⟨a1, -⟩ := H.srp hk2
          show (if ge1 0 k = true ∧ rkN K (B ((srL r 150).getD k 0)).toNat = j then tlT r k else 0) = (if hasT r ((srL r 150).getD k 0) (b : Int) = true then ro r ((srL r 150).getD k 0) 1 % 16 else 0)
          rw [(H.1 _ a1).tail (by omega), b2', Int.toNat_natCast]
          by_cases e : b' = b
          · subst e
            rw [if_pos ⟨decide_eq_true (Nat.zero_le k), ej⟩, if_pos (decide_eq_true rfl)]
            rfl
          · rw [if_neg (fun q => e (rkN_inj b3' b3 (q.2.trans ej.symm))), if_neg (fun q => e (by have := of_decide_eq_true q; omega))])
        rw [h1]
        have h2 := sumN_inj (m := 10) (srL r 150).length (fun f => if hasT r f (b : Int) = true then ro r f 1 % 16 else 0) (fun k => (srL r 150).getD k 0) (fun f => by
          show (0 : Int) ≤ (if _ then _ else _)
          split
          · exact Int.emod_nonneg _ (by decide)
          · exact Int.le_refl _) (fun k _ => srD_lt r k) (fun i k hi hk2 e => srL_inj hi hk2 e)
        have h3 := H.tc (b := b)
        have h4 := pcN_le (tkA Z B S (b : Int) (-1)) 16
        refine Int.le_trans h2 ?_
        show tcF r (b : Int) ≤ 16
        omega
      · have h0 := ldS_0 (T := tlT r) (p := ge1 0) (c := fun k => rkN K (B ((srL r 150).getD k 0)).toNat) (b := j) (n := (srL r 150).length) (fun k hk2 q => hex ⟨k, hk2, q.2⟩)
        omega
  · left
    omega
theorem DR.packF (H : DR K O Rk Z B S W P r) (h1 : 0 ≤ r 1 ∧ r 1 < 1000000) :
    ∃ (t : Int) (R : Nat → Int), pkV r = t ∧ pkRR r = R ∧ -1 ≤ t ∧ cntK R 2 = cntK r 2 - (if t < 0 then 0 else t) ∧ R 1 = r 1 + (if t < 0 then 0 else 1) ∧ R 0 = r 0 ∧ fbG R = fbG r ∧ (∀ g, g < 10 → ro R g 0 = ro r g 0) ∧ (0 < sumN (fun f => Bi (brB R f)) 10 ∨ fbG R ≤ cntK R 2) := by
  have hL : ∀ q, q < (srL r 150).length → (fun q => ro r ((srL r 150).getD q 0) 1 % 16) q = ro r ((srL r 150).getD q 0) 1 % 16 := fun q _ => rfl
  have hE : ∀ q, q < (srL r 150).length → (fun q => (((srL r 150).getD q 0 : Nat) : Int)) q = (((srL r 150).getD q 0 : Nat) : Int) := fun q _ => rfl
  have hF : ∀ b, b < 24 → (fun b => if tpB K B W b = true then (0 : Int) else 16) b = if tpB K B W b = true then 0 else 16 := fun b _ => rfl
  cases ho : orB (pnN (fun q => ro r ((srL r 150).getD q 0) 1 % 16) (fun _ => 0) (fun _ => 0) (fun b => if tpB K B W b = true then (0 : Int) else 16)) (srL r 150).length with
  | true =>
    have hn := (H.pkf (fun _ => 0) (fun _ => 0) hL hF).1 ho
    refine ⟨-1, r, pkV_n hn, pkRR_n hn, by decide, ?_, ?_, rfl, rfl, fun _ _ => rfl, H.fewF⟩
    · rw [if_pos (by decide)]
      omega
    · rw [if_pos (by decide)]
      omega
  | false =>
    obtain ⟨-, r3, k2, k3, k4, k5, k6, k7⟩ := H.pack (fun _ => 0) (fun _ => 0) hL hE hF rfl ho
    have hv := pkV_s k2
    have hem := emN_bd (pnS (fun q => ro r ((srL r 150).getD q 0) 1 % 16) (fun _ => 0) (fun _ => 0) (fun b => if tpB K B W b = true then (0 : Int) else 16) (srL r 150).length).2.2
    have hp : 0 ≤ cntK r 2 - cntK r3 2 := by
      rw [← k4]
      exact hem
    refine ⟨_, r3, hv, pkRR_s k2, by omega, ?_, ?_, k5, H.few_same k3, fun g hg => (H.row3 k3 hg).1, k3.fewF⟩
    · rw [if_neg (by omega)]
      omega
    · rw [if_neg (by omega), k6]
      unfold wr
      omega
end P30C
