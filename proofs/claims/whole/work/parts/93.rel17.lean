/-! an order obeyed, told by the row; what holds at each character of a run -/
theorem c_X7_obey {N : Nat} {T : Ty} {r : Nat → Int} {c x : Int} {a b : Nat} {v : Ct} (hT : TT T) (hV : DV v 1 r c) (hc : c < 1000000) (hs : v 69 1 = x) (hx : x = 43 ∨ x = 45 ∨ x = 60 ∨ x = 62) (h43 : x = 43 → v 69 3 = (a : Int) ∧ a ≤ 200) (hf : x ≠ 43 → v 69 2 = (a : Int) ∧ a < 10) (hb : x = 60 ∨ x = 62 → v 69 3 = (b : Int) ∧ 1 ≤ b ∧ b ≤ 200) : RunsP mX7_obey 6 0 0 [vR 0] N T v N T (fun r1 v1 => r1 = some (vI (Bi (decide (doV r x a b ≠ -1)))) ∧ DV v1 1 (doR r x a b) (c + 1) ∧ oth v v1) := by
  by_cases e43 : x = 43
  · obtain ⟨q1, q2⟩ := h43 e43
    subst e43
    exact c_X7_obey_43 hT hV hc hs q1 q2
  · obtain ⟨q1, q2⟩ := hf e43
    by_cases hfi : ro r a 0 = 1
    · rcases hx with rfl | rfl | rfl | rfl
      · exact absurd rfl e43
      · exact c_X7_obey_45 hT hV hc hs q1 q2 hfi
      · obtain ⟨q3, q4⟩ := hb (Or.inl rfl)
        exact c_X7_obey_60 hT hV hc hs q1 q2 hfi q3 q4
      · obtain ⟨q3, q4⟩ := hb (Or.inr rfl)
        exact c_X7_obey_62 hT hV hc hs q1 q2 hfi q3 q4
    · exact c_X7_obey_no hT hV hc hs (by omega) q1 q2 hfi
section OALL
variable {D H A R : Nat → Int} {n : Nat} {c : Int} {v : Ct}
def OA (D H A R : Nat → Int) (n : Nat) (c : Int) (v : Ct) (S : Nat × (Nat × Ct)) : Prop :=
  S.1 ≤ 60 ∧ DV S.2.2 1 (rnI (v 68) n H A R S.1).2.2.2.2.2 (c + S.1) ∧ (∀ a, (a = 0 ∨ 10 ≤ a) → a ≠ 69 → S.2.2 a = v a) ∧
  ((rnC n (rnI (v 68) n H A R S.1) = true ∧ (rnI (v 68) n H A R S.1).2.1 ≤ S.2.1 ∧ S.2.1 ≤ pRp (v 68) n (rnI (v 68) n H A R S.1).2.1 (rnI (v 68) n H A R S.1).2.2.2.1 ∧ S.2.2 69 = dS (v 68) (rs D 0 0) 0 S.2.1) ∨ (rnC n (rnI (v 68) n H A R S.1) = false ∧ S.2.1 = n + 1))
/-- what an order of the text looks like where the run stands -/
def OF (D H A R : Nat → Int) (n : Nat) (v : Ct) (i at' : Nat) : Prop :=
  i < 60 ∧ at' ≤ n ∧ (at' < pRp (v 68) n (rnI (v 68) n H A R i).2.1 (rnI (v 68) n H A R i).2.2.2.1 → at' < n ∧ v 68 at' ≠ 59 ∧ v 68 at' ≠ -1) ∧ (at' = pRp (v 68) n (rnI (v 68) n H A R i).2.1 (rnI (v 68) n H A R i).2.2.2.1 → (at' < n → v 68 at' = 59) ∧ dS (v 68) (rs D 0 0) 0 at' 1 = rnX (v 68) n (rnI (v 68) n H A R i) ∧
    (rnX (v 68) n (rnI (v 68) n H A R i) = 43 ∨ rnX (v 68) n (rnI (v 68) n H A R i) = 45 ∨ rnX (v 68) n (rnI (v 68) n H A R i) = 60 ∨ rnX (v 68) n (rnI (v 68) n H A R i) = 62) ∧
    (rnX (v 68) n (rnI (v 68) n H A R i) = 43 → dS (v 68) (rs D 0 0) 0 at' 3 = (((rnH (v 68) n (rnI (v 68) n H A R i) 0).toNat : Nat) : Int) ∧ (rnH (v 68) n (rnI (v 68) n H A R i) 0).toNat ≤ 200) ∧
    (rnX (v 68) n (rnI (v 68) n H A R i) ≠ 43 → dS (v 68) (rs D 0 0) 0 at' 2 = (((rnH (v 68) n (rnI (v 68) n H A R i) 0).toNat : Nat) : Int) ∧ (rnH (v 68) n (rnI (v 68) n H A R i) 0).toNat < 10) ∧
    (rnX (v 68) n (rnI (v 68) n H A R i) = 60 ∨ rnX (v 68) n (rnI (v 68) n H A R i) = 62 → dS (v 68) (rs D 0 0) 0 at' 3 = (((rnH (v 68) n (rnI (v 68) n H A R i) 1).toNat : Nat) : Int) ∧ 1 ≤ (rnH (v 68) n (rnI (v 68) n H A R i) 1).toNat ∧ (rnH (v 68) n (rnI (v 68) n H A R i) 1).toNat ≤ 200)) ∧ (rnV (v 68) n (rnI (v 68) n H A R i) ≠ -1 → at' = pRp (v 68) n (rnI (v 68) n H A R i).2.1 (rnI (v 68) n H A R i).2.2.2.1 → (rnI (v 68) n H A R (i + 1)).2.1 = at' + 1 ∧ (rnC n (rnI (v 68) n H A R (i + 1)) = true ∧ at' < n ∨ rnC n (rnI (v 68) n H A R (i + 1)) = false ∧ at' = n))
theorem OF.of (hn : n ≤ 60) (hacc : acc (v 68) D n) (hR : DRx R) (hH : HOK H) {S : Nat × (Nat × Ct)} (h : OA D H A R n c v S) (hat : S.2.1 ≤ n) : OF D H A R n v S.1 S.2.1 ∧ rnC n (rnI (v 68) n H A R S.1) = true ∧ S.2.1 ≤ pRp (v 68) n (rnI (v 68) n H A R S.1).2.1 (rnI (v 68) n H A R S.1).2.2.2.1 ∧ S.2.2 69 = dS (v 68) (rs D 0 0) 0 S.2.1 := by
  obtain ⟨-, -, -, hm⟩ := h
  obtain ⟨m1, m2, m3, m4⟩ := hm.resolve_right (fun q => by omega)
  have hJ := rn_all (U := v 68) (A := A) hn hacc hR hH S.1
  obtain ⟨hok, hJ2, hp, hd⟩ := rnJ_ok hn hacc hJ m1
  obtain ⟨hpn, a, a1, a2, a3, a4, a5, a6, a7, a8, a9, a10, a11, a12⟩ := acc_ord hn hacc (Nat.le_of_lt hp) hd (rnI (v 68) n H A R S.1).2.2.2.1
  have hmu := rnI_mu m1
  obtain ⟨o1, o2, o3, o4, o5, o6, o7⟩ := hok
  have ex : rnX (v 68) n (rnI (v 68) n H A R S.1) = v 68 (rnI (v 68) n H A R S.1).2.1 := a4
  have e0 : rnH (v 68) n (rnI (v 68) n H A R S.1) 0 = pRh (v 68) n (rnI (v 68) n H A R S.1).2.1 (rnI (v 68) n H A R S.1).2.2.2.1 0 := rfl
  have e1 : rnH (v 68) n (rnI (v 68) n H A R S.1) 1 = pRh (v 68) n (rnI (v 68) n H A R S.1).2.1 (rnI (v 68) n H A R S.1).2.2.2.1 1 := rfl
  refine ⟨⟨by omega, hat, fun q => ?_, fun q => ?_, fun q1 q2 => ?_⟩, m1, m3, m4⟩
  · have := a9 S.2.1 m2 (by omega)
    exact ⟨by omega, this.2, by omega⟩
  · rw [a2] at q
    rw [ex, q, e0, e1]
    refine ⟨fun k => (a8 k).1, a6, a5, fun k => ?_, fun k => ?_, fun k => ?_⟩
    · obtain ⟨b1, b2, b3⟩ := a10 k
      omega
    · rw [ex] at o4
      have k4 := o4 k
      rcases a5 with k2 | k2 | k2 | k2
      · exact absurd k2 k
      · obtain ⟨b1, b2, b3⟩ := a11 k2
        omega
      · obtain ⟨b1, b2, b3, b4, b5⟩ := a12 (Or.inl k2)
        omega
      · obtain ⟨b1, b2, b3, b4, b5⟩ := a12 (Or.inr k2)
        omega
    · obtain ⟨b1, b2, b3, b4, b5⟩ := a12 k
      omega
  · have es := rnI_s m1
    have ep : (rnI (v 68) n H A R (S.1 + 1)).2.1 = S.2.1 + 1 := by
      rw [es, q2]
      rfl
    have e2 : (rnI (v 68) n H A R (S.1 + 1)).1 = true := by
      rw [es]
      exact decide_eq_true q1
    refine ⟨ep, ?_⟩
    unfold rnC
    rw [e2, ep]
    have j3 := hJ2.2.2.1 (decide_eq_true q1)
    rw [← es, ep] at j3
    rcases j3 with k | k
    · exact Or.inr ⟨by rw [decide_eq_false (by omega)]; rfl, by omega⟩
    · exact Or.inl ⟨by rw [decide_eq_true k.1]; rfl, by omega⟩
theorem OA.start (hacc : acc (v 68) D n) (hD : v 69 = rs D 0 0) (hV : DV v 1 R c) : OA D H A R n c v (0, 0, v) := by
  refine ⟨Nat.zero_le _, hV.mono (show c ≤ c + ((0 : Nat) : Int) by omega), fun _ _ _ => rfl, Or.inl ⟨?_, Nat.le_refl _, Nat.zero_le _, hD⟩⟩
  show (true && decide (0 < n)) = true
  rw [decide_eq_true (acc_n hacc)]
  rfl
theorem OA.go {S : Nat × (Nat × Ct)} (h : OA D H A R n c v S) (hm : rnC n (rnI (v 68) n H A R S.1) = true ∧ S.2.1 < pRp (v 68) n (rnI (v 68) n H A R S.1).2.1 (rnI (v 68) n H A R S.1).2.2.2.1) {d : Nat → Int} (hd : d = dS (v 68) (rs D 0 0) 0 (S.2.1 + 1)) (hpp : (rnI (v 68) n H A R S.1).2.1 ≤ S.2.1) : OA D H A R n c v (S.1, S.2.1 + 1, sa S.2.2 69 d) := by
  obtain ⟨h1, h2, h3, h4⟩ := h
  exact ⟨h1, h2.same (fun k hk => sa_ne (show 1 + k ≠ 69 by omega) d) (fun _ _ => rfl), fun a q1 q2 => (sa_ne q2 _).trans (h3 a q1 q2), Or.inl ⟨hm.1, Nat.le_succ_of_le hpp, hm.2, (sa_eq S.2.2 69 d).trans hd⟩⟩
theorem OA.ob {S : Nat × (Nat × Ct)} (h : OA D H A R n c v S) (hF : OF D H A R n v S.1 S.2.1) (hm : rnC n (rnI (v 68) n H A R S.1) = true) (he : S.2.1 = pRp (v 68) n (rnI (v 68) n H A R S.1).2.1 (rnI (v 68) n H A R S.1).2.2.2.1) {v1 : Ct} (hW : DV v1 1 (doR (rnI (v 68) n H A R S.1).2.2.2.2.2 (rnX (v 68) n (rnI (v 68) n H A R S.1)) (rnH (v 68) n (rnI (v 68) n H A R S.1) 0).toNat (rnH (v 68) n (rnI (v 68) n H A R S.1) 1).toNat) (c + S.1 + 1)) (ho : oth S.2.2 v1) :
    (rnV (v 68) n (rnI (v 68) n H A R S.1) ≠ -1 → ∀ d, (S.2.1 < n → d = dS (v 68) (rs D 0 0) 0 (S.2.1 + 1)) → OA D H A R n c v (S.1 + 1, S.2.1 + 1, sa v1 69 d)) ∧
    (rnV (v 68) n (rnI (v 68) n H A R S.1) = -1 → DV v1 1 (rnI (v 68) n H A R 60).2.2.2.2.2 (c + 61) ∧ (rnI (v 68) n H A R 60).2.2.1 = S.1 ∧ ∀ a, (a = 0 ∨ 10 ≤ a) → a ≠ 69 → v1 a = v a) := by
  obtain ⟨h1, h2, h3, h4⟩ := h
  have es := rnI_s hm
  have h60 := hF.1
  have er : (rnI (v 68) n H A R (S.1 + 1)).2.2.2.2.2 = doR (rnI (v 68) n H A R S.1).2.2.2.2.2 (rnX (v 68) n (rnI (v 68) n H A R S.1)) (rnH (v 68) n (rnI (v 68) n H A R S.1) 0).toNat (rnH (v 68) n (rnI (v 68) n H A R S.1) 1).toNat := by rw [es]; rfl
  rw [← er] at hW
  have hoth : ∀ a, (a = 0 ∨ 10 ≤ a) → a ≠ 69 → v1 a = v a := fun a q1 q2 => (ho a q1).trans (h3 a q1 q2)
  refine ⟨fun q d hd => ?_, fun q => ?_⟩
  · obtain ⟨ep, hnx⟩ := hF.2.2.2.2 q he
    refine ⟨by show S.1 + 1 ≤ 60; omega, DV.mono (c := c + S.1 + 1) (hW.same (fun k hk => sa_ne (show 1 + k ≠ 69 by omega) d) (fun _ _ => rfl)) (by show c + S.1 + 1 ≤ c + ((S.1 + 1 : Nat) : Int); omega), fun a q1 q2 => (sa_ne q2 _).trans (hoth a q1 q2), ?_⟩
    rcases hnx with ⟨k1, k2⟩ | ⟨k1, k2⟩
    · refine Or.inl ⟨k1, Nat.le_of_eq ep, ?_, (sa_eq v1 69 d).trans (hd k2)⟩
      show S.2.1 + 1 ≤ pRp (v 68) n (rnI (v 68) n H A R (S.1 + 1)).2.1 (rnI (v 68) n H A R (S.1 + 1)).2.2.2.1
      rw [ep]
      exact (pRp_bd (U := v 68) (H := (rnI (v 68) n H A R (S.1 + 1)).2.2.2.1) (show S.2.1 + 1 ≤ n by omega)).1
    · exact Or.inr ⟨k1, by show S.2.1 + 1 = n + 1; omega⟩
  · have hct := rn_ct S.1 hm
    have hC : rnC n (rnI (v 68) n H A R (S.1 + 1)) = false := by
      rw [es]
      show (decide (rnV (v 68) n (rnI (v 68) n H A R S.1) ≠ -1) && _) = false
      rw [decide_eq_false (fun k => k q)]
      rfl
    have ee := rnI_e hC (by omega)
    rw [ee]
    refine ⟨hW.mono (by omega), ?_, hoth⟩
    rw [es]
    show (rnI (v 68) n H A R S.1).2.2.1 + (if rnV (v 68) n (rnI (v 68) n H A R S.1) ≠ -1 then 1 else 0) = S.1
    rw [if_neg (fun k => k q), hct]
    rfl
theorem OA.fin {S : Nat × (Nat × Ct)} (h : OA D H A R n c v S) (hat : n < S.2.1) (hpn : ∀ p H', p ≤ n → pRp (v 68) n p H' ≤ n) (hle : ∀ i, rnC n (rnI (v 68) n H A R i) = true → (rnI (v 68) n H A R i).2.1 ≤ n) : DV S.2.2 1 (rnI (v 68) n H A R 60).2.2.2.2.2 (c + 61) ∧ (rnI (v 68) n H A R 60).2.2.1 = (rnI (v 68) n H A R S.1).2.2.1 ∧ ∀ a, (a = 0 ∨ 10 ≤ a) → a ≠ 69 → S.2.2 a = v a := by
  obtain ⟨h1, h2, h3, h4⟩ := h
  rcases h4 with ⟨m1, m2, m3, m4⟩ | ⟨m1, m2⟩
  · have := hpn _ (rnI (v 68) n H A R S.1).2.2.2.1 (hle _ m1)
    omega
  · have ee := rnI_e m1 h1
    rw [ee]
    exact ⟨h2.mono (by omega), rfl, h3⟩
end OALL
theorem dS_s (U D : Nat → Int) (a : Nat) : dS U D 0 (a + 1) = oTd (dS U D 0 a) (dS U D 0 a 0).toNat (U a) := by
  show oTd (dS U D 0 a) (dS U D 0 a 0).toNat (U (0 + a)) = _
  rw [Nat.zero_add]
theorem OA.start0 {D H A R : Nat → Int} {n : Nat} {c : Int} {v : Ct} (hacc : acc (v 68) D n) (hV : DV v 1 R c) : OA D H A R n c v (0, 0, sa v 69 (rs D 0 0)) := by
  refine ⟨Nat.zero_le _, DV.mono (c := c) (hV.same (fun k hk => sa_ne (show 1 + k ≠ 69 by omega) _) (fun _ _ => rfl)) (show c ≤ c + ((0 : Nat) : Int) by omega), fun a _ q => sa_ne q _, Or.inl ⟨?_, Nat.le_refl _, Nat.zero_le _, sa_eq v 69 _⟩⟩
  show (true && decide (0 < n)) = true
  rw [decide_eq_true (acc_n hacc)]
  rfl
theorem OA.le {D H A R : Nat → Int} {n : Nat} {c : Int} {v : Ct} (hn : n ≤ 60) {S : Nat × (Nat × Ct)} (h : OA D H A R n c v S) : S.2.1 ≤ n + 1 := by
  obtain ⟨-, -, -, h4⟩ := h
  rcases h4 with ⟨m1, m2, m3, m4⟩ | ⟨m1, m2⟩
  · have q := of_decide_eq_true (Bool.and_eq_true_iff.mp m1).2
    have := (pRp_bd (U := v 68) (H := (rnI (v 68) n H A R S.1).2.2.2.1) (Nat.le_of_lt q)).2
    omega
  · omega
