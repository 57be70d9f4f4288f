/-! an order done on both sides -/
theorem RunsE.imp {Y : MD} {hh : List (Nat × Nat × Nat × Nat)} {d mc ms : Nat} {as : List MV} {N : Nat} {T : Ty} {v : Ct} {Post Post2 : Option MV → Nat → Ty → Ct → Prop} (h : RunsE Y hh d mc ms as N T v Post) (hi : ∀ r N1 T1 v1, Post r N1 T1 v1 → Post2 r N1 T1 v1) : RunsE Y hh d mc ms as N T v Post2 := by
  intro l b δ hst p e h1 h2 h3 s m args below hf ha hP hK
  obtain ⟨n, o, a1, a2, a3, a4⟩ := h l b δ hst p e h1 h2 h3 s m args below hf ha hP hK
  refine ⟨n, o, a1, a2, a3, ?_⟩
  rcases a4 with ⟨⟨r, N1, T1, v1, q1, q2⟩, q3⟩ | ⟨q, -, E, ce, L, hF, -⟩
  · exact Or.inl ⟨⟨r, N1, T1, v1, hi r N1 T1 v1 q1, q2⟩, q3⟩
  · exact hF.elim
/-- both sides agree: the class's answer or its code, and what holds afterwards -/
def AG (N : Nat) (_ : Ty) (Y : MD) (as : List MV) (code c2 : Int) (r1 : Option MV) (N1 : Nat) (T1 : Ty) (v1 : Ct) : Prop :=
  (r1 = some (vI code) ∧ 0 ≤ code ∧ code ≤ 2) ∧ TT T1 ∧ N ≤ N1 ∧ ∃ D, D ≤ 20 ∧ RunsP Y D 0 0 (vR 84 :: as) N1 T1 v1 N1 T1 (fun r2 v2 => ∃ z, r2 = some (vI z) ∧ v2 84 13 = code ∧ (code = 0 → v2 95 0 = wr z) ∧ LI N1 T1 v2 c2)
/-- nothing was done on either side -/
theorem LI.no {N N1 : Nat} {T : Ty} {v : Ct} {c c2 x : Int} (h : LI N T v c) (hN : N ≤ N1) (hc : c ≤ c2) : LI N1 T (sa v 84 (rs (v 84) 13 x)) c2 := by
  have o : ∀ a, a ≠ 84 → sa v 84 (rs (v 84) 13 x) a = v a := fun a ha => sa_ne ha _
  have e84 : ∀ j, j ≠ 13 → sa v 84 (rs (v 84) 13 x) 84 j = v 84 j := fun j hj => by rw [sa_eq, rs_ne hj]
  obtain ⟨s, hs1, hs2⟩ := h.2.2.2.1
  refine h.step hN hc ?_ ⟨s, ?_, ?_⟩ (o _ (by decide)) (o _ (by decide)) (o _ (by decide)) (fun a h1 _ => o a (by omega)) (by rw [o 67 (by decide)]) (e84 7 (by decide)) (o _ (by decide)) (o _ (by decide)) (by rw [o 91 (by decide)]; exact h.2.2.2.2.2.2.2.2)
  · rw [o 85 (by decide)]
    exact (h.2.2.1.same (fun k hk => o _ (by omega)) (fun _ _ => rfl)).mono hc
  · rw [o 86 (by decide)]
    exact (hs1.same (fun a h1 h2 => o a (by omega))).mono hc
  · rw [e84 5 (by decide)]
    exact hs2
/-- the class's step and the reference's, put together -/
theorem LI.both {N : Nat} {T : Ty} {v v2 v3 : Ct} {c c2 : Int} {s : Nat} {z : Int} {R' A' F' O' : Nat → Int} (h : LI N T v c) (hs : HVr v (v 86) s c) (hs2 : v 84 5 = (s : Int)) (hc : c ≤ c2) (hV : DV v2 1 R' c2) (hH : HVr v2 (svP (v 86) (v 85) s) (svN s) c2) (hf : fr v v2)
    (h3 : v3 = sa (sa (sa (sa (sa (sa (sa v2 95 (rs (v2 95) 0 z)) 86 (svP (v 86) (v 85) s)) 84 (rs (rs (v 84) 13 0) 5 ((svN s : Nat) : Int))) 94 F') 93 O') 88 A') 85 R') : v3 84 13 = 0 ∧ v3 95 0 = z ∧ LI N T v3 c2 := by
  have o : ∀ a, a ≠ 84 → a ≠ 85 → a ≠ 86 → a ≠ 88 → a ≠ 93 → a ≠ 94 → a ≠ 95 → v3 a = v2 a := fun a q1 q2 q3 q4 q5 q6 q7 => by
    rw [h3, sa_ne q2, sa_ne q4, sa_ne q5, sa_ne q6, sa_ne q1, sa_ne q3, sa_ne q7]
  have e85 : v3 85 = R' := by rw [h3, sa_eq]
  have e86 : v3 86 = svP (v 86) (v 85) s := by rw [h3, sa_ne (by decide), sa_ne (by decide), sa_ne (by decide), sa_ne (by decide), sa_ne (by decide), sa_eq]
  have e84 : v3 84 = rs (rs (v 84) 13 0) 5 ((svN s : Nat) : Int) := by rw [h3, sa_ne (by decide), sa_ne (by decide), sa_ne (by decide), sa_ne (by decide), sa_eq]
  have e95 : v3 95 = rs (v2 95) 0 z := by rw [h3, sa_ne (by decide), sa_ne (by decide), sa_ne (by decide), sa_ne (by decide), sa_ne (by decide), sa_ne (by decide), sa_eq]
  refine ⟨by rw [e84, rs_ne (by decide), rs_eq], by rw [e95, rs_eq], ?_⟩
  refine h.step (Nat.le_refl _) hc ?_ ⟨svN s, ?_, by rw [e84, rs_eq]⟩ ?_ ?_ ?_ (fun a h1 _ => ?_) ?_ (by rw [e84, rs_ne (by decide), rs_ne (by decide)]) ?_ ?_ ?_
  · rw [e85]
    exact hV.same (fun k hk => o _ (by omega) (by omega) (by omega) (by omega) (by omega) (by omega) (by omega)) (fun _ _ => rfl)
  · rw [e86]
    exact hH.same (fun a h1 h2 => o a (by omega) (by omega) (by omega) (by omega) (by omega) (by omega) (by omega))
  · rw [o 66 (by decide) (by decide) (by decide) (by decide) (by decide) (by decide) (by decide)]; exact hf 66 (by omega)
  · rw [o 89 (by decide) (by decide) (by decide) (by decide) (by decide) (by decide) (by decide)]; exact hf 89 (by omega)
  · rw [o 87 (by decide) (by decide) (by decide) (by decide) (by decide) (by decide) (by decide)]; exact hf 87 (by omega)
  · rw [o a (by omega) (by omega) (by omega) (by omega) (by omega) (by omega) (by omega)]; exact hf a (by omega)
  · rw [o 67 (by decide) (by decide) (by decide) (by decide) (by decide) (by decide) (by decide), hf 67 (by omega)]
  · rw [o 68 (by decide) (by decide) (by decide) (by decide) (by decide) (by decide) (by decide)]; exact hf 68 (by omega)
  · rw [o 90 (by decide) (by decide) (by decide) (by decide) (by decide) (by decide) (by decide)]; exact hf 90 (by omega)
  · rw [o 91 (by decide) (by decide) (by decide) (by decide) (by decide) (by decide) (by decide), hf 91 (by omega)]; exact h.2.2.2.2.2.2.2.2
