theorem c_L_comes {N : Nat} {T : Ty} {r P : Nat → Int} {c : Int} {s : Nat} {t : Int} {x : Nat} {v : Ct} (hT : TT T) (hV : DV v 1 r c) (hHV : HVr v P s c) (hc : c < 900000) (ht : FLm t r) (hx : x ≤ 200) : RunsP mL_comes 6 0 0 [vR 0, vI t, vI ((x : Nat) : Int)] N T v N T (fun r1 v1 => r1 = some (vI (crV r x)) ∧ DV v1 1 (crR r x) (c + 1) ∧ HVr v1 (svP P r s) (svN s) (c + 1) ∧ fr v v1) := by
  cases hca : caB r x with
  | true => exact c_L_comes_y hT hV hHV hc ht hx hca
  | false => exact c_L_comes_n hT hV hHV hc ht hx hca
theorem DR.comeF {K O Rk Z B S W P r : Nat → Int} (H : DR K O Rk Z B S W P r) (h0 : 0 ≤ r 0 ∧ r 0 < 1000000) {x : Nat} (hx : x ≤ 200) {t : Int} (ht : FLm t r) :
    (crV r x < 0 → FLm ((t.toNat ||| (0 : Int).toNat : Nat) : Int) (crR r x)) ∧ (¬ crV r x < 0 → FLm ((t.toNat ||| (1 * 2 ^ (crV r x).toNat : Int).toNat : Nat) : Int) (crR r x)) ∧ -1 ≤ crV r x ∧ crV r x ≤ 9 := by
  cases hca : caB r x with
  | true =>
    obtain ⟨f, hf, q1, q2, q3, q4, q5, -⟩ := H.comeY h0 hx hca
    refine ⟨fun q => by omega, fun _ => ?_, by omega, by omega⟩
    rw [q1, Int.toNat_natCast]
    exact ht.add hf q5 q4
  | false =>
    obtain ⟨q1, q2, q3, q4⟩ := H.comeN h0 hx hca
    refine ⟨fun _ => ?_, fun q => by omega, by omega, by omega⟩
    have e : ((t.toNat ||| (0 : Int).toNat : Nat) : Int) = t := by
      show ((t.toNat ||| 0 : Nat) : Int) = t
      rw [Nat.or_zero]
      have := ht.1
      omega
    rw [e]
    exact ht.congr q3
/-- what holds before each act of the law -/
def PI (N : Nat) (T : Ty) (v : Ct) (t c : Int) : Prop := TT T ∧ 84 ≤ N ∧ ∃ (r P : Nat → Int) (s : Nat), DV v 1 r c ∧ HVr v P s c ∧ FLm t r ∧ PLk r
theorem PI.mono {N : Nat} {T : Ty} {v : Ct} {t c c2 : Int} (h : PI N T v t c) (hc : c ≤ c2) : PI N T v t c2 := by
  obtain ⟨h1, h2, r, P, s, h3, h4, h5, h6⟩ := h
  exact ⟨h1, h2, r, P, s, h3.mono hc, h4.mono hc, h5, h6⟩
abbrev mLn (nm : String) : MD := (⟨RL, nm, "([I)Z"⟩, cL_law, 12, ret)
abbrev LQP (q : Nat) (t : Int) (k : Nat) (a b c d e f g h : Option MV) : List (Option MV) := [some (vR (-(q : Int) - 2)), some (vR 0), some (vI t), some (vI ((k : Nat) : Int)), a, b, c, d, e, f, g, h]
/-- what follows an act -/
def NP (κ : KX) (q k : Nat) (c : Int) (kc nc : Nat) (Q : State → Prop) : Prop := ∀ (N1 : Nat) (T1 : Ty) (v1 : Ct) (t1 : Int) (k1 n1 : Nat) (e4 e5 e6 e7 e8 e10 e11 : Option MV), PI N1 T1 v1 t1 (c + 1) → k1 ≤ kc + 1 → n1 ≤ nc + 10 → M κ N1 T1 437 (LQP q t1 k e4 e5 e6 e7 e8 (some (vI 1)) e10 e11) [] v1 k1 n1 Q
