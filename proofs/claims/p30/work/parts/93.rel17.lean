section OALL
variable {D H A R : Nat → Int} {n : Nat} {c : Int} {v : Ct}
def OA (D H A R : Nat → Int) (n : Nat) (c : Int) (v : Ct) (S : Nat × (Nat × Ct)) : Prop :=
  S.1 ≤ 60 ∧ DV S.2.2 1 (rnI (v 68) n H A R S.1).2.2.2.2.2 (c + S.1) ∧ (∀ a, (a = 0 ∨ 10 ≤ a) → a ≠ 69 → S.2.2 a = v a) ∧
  ((rnC n (rnI (v 68) n H A R S.1) = true ∧ (rnI (v 68) n H A R S.1).2.1 ≤ S.2.1 ∧ S.2.1 ≤ pRp (v 68) n (rnI (v 68) n H A R S.1).2.1 (rnI (v 68) n H A R S.1).2.2.2.1 ∧ S.2.2 69 = dS (v 68) (rs D 0 0) 0 S.2.1) ∨ (rnC n (rnI (v 68) n H A R S.1) = false ∧ S.2.1 = n + 1))
/-- what an order of the text looks like where the run stands -/
def OF (D H A R : Nat → Int) (n : Nat) (v : Ct) (i at' : Nat) : Prop :=
  i < 60 ∧ at' ≤ n ∧ (at' < pRp (v 68) n (rnI (v 68) n H A R i).2.1 (rnI (v 68) n H A R i).2.2.2.1 → at' < n ∧ v 68 at' ≠ 59 ∧ v 68 at' ≠ -1) ∧ (at' = pRp (v 68) n (rnI (v 68) n H A R i).2.1 (rnI (v 68) n H A R i).2.2.2.1 → (at' < n → v 68 at' = 59) ∧ dS (v 68) (rs D 0 0) 0 at' 1 = rnX (v 68) n (rnI (v 68) n H A R i) ∧
    (rnX (v 68) n (rnI (v 68) n H A R i) = 43 ∨ rnX (v 68) n (rnI (v 68) n H A R i) = 45 ∨ rnX (v 68) n (rnI (v 68) n H A R i) = 60 ∨ rnX (v 68) n (rnI (v 68) n H A R i) = 62) ∧
    (rnX (v 68) n (rnI (v 68) n H A R i) = 43 → dS (v 68) (rs D 0 0) 0 at' 3 = (((rnH (v 68) n (rnI (v 68) n H A R i) 0).toNat : Nat) : Int) ∧ (rnH (v 68) n (rnI (v 68) n H A R i) 0).toNat ≤ 200) ∧
    (rnX (v 68) n (rnI (v 68) n H A R i) ≠ 43 → dS (v 68) (rs D 0 0) 0 at' 2 = (((rnH (v 68) n (rnI (v 68) n H A R i) 0).toNat : Nat) : Int) ∧ (rnH (v 68) n (rnI (v 68) n H A R i) 0).toNat < 10) ∧
    (rnX (v 68) n (rnI (v 68) n H A R i) = 60 ∨ rnX (v 68) n (rnI (v 68) n H A R i) = 62 → dS (v 68) (rs D 0 0) 0 at' 3 = (((rnH (v 68) n (rnI (v 68) n H A R i) 1).toNat : Nat) : Int) ∧ 1 ≤ (rnH (v 68) n (rnI (v 68) n H A R i) 1).toNat ∧ (rnH (v 68) n (rnI (v 68) n H A R i) 1).toNat ≤ 200)) ∧ (rnV (v 68) n (rnI (v 68) n H A R i) ≠ -1 → at' = pRp (v 68) n (rnI (v 68) n H A R i).2.1 (rnI (v 68) n H A R i).2.2.2.1 → (rnI (v 68) n H A R (i + 1)).2.1 = at' + 1 ∧ (rnC n (rnI (v 68) n H A R (i + 1)) = true ∧ at' < n ∨ rnC n (rnI (v 68) n H A R (i + 1)) = false ∧ at' = n))
theorem OF.of (hn : n ≤ 60) (hacc : acc (v 68) D n) (hR : DRx R) (hH : HOK H) {S : Nat × (Nat × Ct)} (h : OA D H A R n c v S) (hat : S.2.1 ≤ n) : OF D H A R n v S.1 S.2.1 ∧ rnC n (rnI (v 68) n H A R S.1) = true ∧ S.2.1 ≤ pRp (v 68) n (rnI (v 68) n H A R S.1).2.1 (rnI (v 68) n H A R S.1).2.2.2.1 ∧ S.2.2 69 = dS (v 68) (rs D 0 0) 0 S.2.1 := by
  obtain ⟨-, -, -, hm⟩ := h
  obtain ⟨m1, m2, m3, m4⟩ := hm.resolve_right (fun q => by omega)
  have hJ := rn_all (U := v 68) (A := A) hn hacc hR hH S.1
  obtain ⟨hok, hJ2, hp, hd⟩ := rnJ_ok hn hacc hJ m1
  obtain ⟨hpn, a, a1, a2, a3, a4, a5, a6, a7, a8, a9, a10, a11, a12⟩ := acc_ord hn hacc (Nat.le_of_lt hp) hd (rnI (v 68) n H A R S.1).2.2.2.1
  have hmu := rnI_mu m1
  obtain ⟨o1, o2, o3, o4, o5, o6, o7⟩ := hok
  have ex : rnX (v 68) n (rnI (v 68) n H A R S.1) = v 68 (rnI (v 68) n H A R S.1).2.1 := a4
  have e0 : rnH (v 68) n (rnI (v 68) n H A R S.1) 0 = pRh (v 68) n (rnI (v 68) n H A R S.1).2.1 (rnI (v 68) n H A R S.1).2.2.2.1 0 := rfl
  have e1 : rnH (v 68) n (rnI (v 68) n H A R S.1) 1 = pRh (v 68) n (rnI (v 68) n H A R S.1).2.1 (rnI (v 68) n H A R S.1).2.2.2.1 1 := rfl
  refine ⟨⟨by omega, hat, fun q => ?_, fun q => ?_, fun q1 q2 => ?_⟩, m1, m3, m4⟩
  · have := a9 S.2.1 m2 (by omega)
    exact ⟨by omega, this.2, by omega⟩
  · rw [a2] at q
    rw [ex, q, e0, e1]
    refine ⟨fun k => (a8 k).1, a6, a5, fun k => ?_, fun k => ?_, fun k => ?_⟩
    · obtain ⟨b1, b2, b3⟩ := a10 k
      omega
    · rw [ex] at o4
      have k4 := o4 k
      rcases a5 with k2 | k2 | k2 | k2
      · exact absurd k2 k
      · obtain ⟨b1, b2, b3⟩ := a11 k2
        omega
      · obtain ⟨b1, b2, b3, b4, b5⟩ := a12 (Or.inl k2)
        omega
      · obtain ⟨b1, b2, b3, b4, b5⟩ := a12 (Or.inr k2)
        omega
    · obtain ⟨b1, b2, b3, b4, b5⟩ := a12 k
      omega
  · have es := rnI_s m1
    have ep : (rnI (v 68) n H A R (S.1 + 1)).2.1 = S.2.1 + 1 := by
      rw [es, q2]
      rfl
    have e2 : (rnI (v 68) n H A R (S.1 + 1)).1 = true := by
      rw [es]
      exact decide_eq_true q1
    refine ⟨ep, ?_⟩
    unfold rnC
    rw [e2, ep]
    have j3 := hJ2.2.2.1 (decide_eq_true q1)
    rw [← es, ep] at j3
    rcases j3 with k | k
    · exact Or.inr ⟨by rw [decide_eq_false (by omega)]; rfl, by omega⟩
    · exact Or.inl ⟨by rw [decide_eq_true k.1]; rfl, by omega⟩
theorem OA.go {S : Nat × (Nat × Ct)} (h : OA D H A R n c v S) (hm : rnC n (rnI (v 68) n H A R S.1) = true ∧ S.2.1 < pRp (v 68) n (rnI (v 68) n H A R S.1).2.1 (rnI (v 68) n H A R S.1).2.2.2.1) {d : Nat → Int} (hd : d = dS (v 68) (rs D 0 0) 0 (S.2.1 + 1)) (hpp : (rnI (v 68) n H A R S.1).2.1 ≤ S.2.1) : OA D H A R n c v (S.1, S.2.1 + 1, sa S.2.2 69 d) := by
  obtain ⟨h1, h2, h3, h4⟩ := h
  exact ⟨h1, h2.same (fun k hk => sa_ne (show 1 + k ≠ 69 by omega) d) (fun _ _ => rfl), fun a q1 q2 => (sa_ne q2 _).trans (h3 a q1 q2), Or.inl ⟨hm.1, Nat.le_succ_of_le hpp, hm.2, (sa_eq S.2.2 69 d).trans hd⟩⟩
end OALL
