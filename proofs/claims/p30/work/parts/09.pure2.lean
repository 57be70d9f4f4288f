section TERN2
variable {κ : KX} {Y : MD} {d mc ms N : Nat} {T : Ty} {pc : Nat} {L : List (Option MV)} {st : List MV} {v : Ct} {k n : Nat} {Q : State → Prop}
theorem T_if_eq (C : CX κ Y d mc ms) {x : Int} (h1 : i32 x) (d0 : decode Y.2.1 pc = .ok (.ifCond .eq 7, 3)) (d3 : decode Y.2.1 (pc + 3) = .ok (.iconst 1, 1)) (d4 : decode Y.2.1 (pc + 4) = .ok (.goto 4, 3)) (d7 : decode Y.2.1 (pc + 7) = .ok (.iconst 0, 1))
    (kk : M κ N T (pc + 8) L (vI (Bi (decide (x ≠ 0))) :: st) v k n Q) : M κ N T pc L (vI x :: st) v k n Q := by
  refine M_if_eq C (tgt := pc + 7) h1 d0 (by push_cast; rfl) (fun h => ?_) (fun h => ?_)
  · rw [decide_eq_false (fun q => q h)] at kk
    exact M_iconst C d7 kk
  · rw [decide_eq_true h] at kk
    exact M_iconst C d3 (M_goto C (tgt := pc + 8) d4 (by push_cast; omega) kk)
theorem T_if_ne (C : CX κ Y d mc ms) {x : Int} (h1 : i32 x) (d0 : decode Y.2.1 pc = .ok (.ifCond .ne 7, 3)) (d3 : decode Y.2.1 (pc + 3) = .ok (.iconst 1, 1)) (d4 : decode Y.2.1 (pc + 4) = .ok (.goto 4, 3)) (d7 : decode Y.2.1 (pc + 7) = .ok (.iconst 0, 1))
    (kk : M κ N T (pc + 8) L (vI (Bi (decide (x = 0))) :: st) v k n Q) : M κ N T pc L (vI x :: st) v k n Q := by
  refine M_if_ne C (tgt := pc + 7) h1 d0 (by push_cast; rfl) (fun h => ?_) (fun h => ?_)
  · rw [decide_eq_false h] at kk
    exact M_iconst C d7 kk
  · rw [decide_eq_true h] at kk
    exact M_iconst C d3 (M_goto C (tgt := pc + 8) d4 (by push_cast; omega) kk)
theorem T_if_le (C : CX κ Y d mc ms) {x : Int} (h1 : i32 x) (d0 : decode Y.2.1 pc = .ok (.ifCond .le 7, 3)) (d3 : decode Y.2.1 (pc + 3) = .ok (.iconst 1, 1)) (d4 : decode Y.2.1 (pc + 4) = .ok (.goto 4, 3)) (d7 : decode Y.2.1 (pc + 7) = .ok (.iconst 0, 1))
    (kk : M κ N T (pc + 8) L (vI (Bi (decide (0 < x))) :: st) v k n Q) : M κ N T pc L (vI x :: st) v k n Q := by
  refine M_if_le C (tgt := pc + 7) h1 d0 (by push_cast; rfl) (fun h => ?_) (fun h => ?_)
  · rw [decide_eq_false (by omega)] at kk
    exact M_iconst C d7 kk
  · rw [decide_eq_true h] at kk
    exact M_iconst C d3 (M_goto C (tgt := pc + 8) d4 (by push_cast; omega) kk)
end TERN2
theorem isPk_no {r : Nat → Int} {f : Nat} (h : ro r f 0 ≠ 1 ∨ ro r f 2 ≠ 0) : isPk r f = false := by
  unfold isPk
  rcases h with h | h
  · rw [decide_eq_false h, Bool.false_and]
  · rw [decide_eq_false h, Bool.false_and, Bool.and_false]
theorem isPk_yes {r : Nat → Int} {f : Nat} (h1 : ro r f 0 = 1) (h2 : ro r f 2 = 0) : isPk r f = decide (0 < ro r f 1 % 16) := by
  unfold isPk
  rw [decide_eq_true h1, decide_eq_true h2, Bool.true_and, Bool.true_and]
theorem hldB_no {r : Nat → Int} {b : Int} {f : Nat} (h : hasT r f b = false) : hldB r b f = false := by
  unfold hldB
  rw [h, Bool.false_and]
theorem hldB_yes {r : Nat → Int} {b : Int} {f : Nat} (h : hasT r f b = true) : hldB r b f = decide (ro r f 2 = 1) := by
  unfold hldB
  rw [h, Bool.true_and]
theorem owN_t {c : Nat → Bool} {i : Nat} (h : c (9 - i) = true) : owN c (i + 1) = 9 - (i : Int) := if_pos h
theorem owN_f {c : Nat → Bool} {i : Nat} (h : c (9 - i) = false) : owN c (i + 1) = owN c i := if_neg (by rw [h]; decide)
def cntK (r : Nat → Int) (x : Int) : Int := sumN (fun b => Bi (decide (r (3 + b) = x))) 24
theorem cntK_bd (r : Nat → Int) (x : Int) : 0 ≤ cntK r x ∧ cntK r x ≤ 24 := by
  have := sumN_bd (g := fun b => Bi (decide (r (3 + b) = x))) (a := 1) (by decide) 24 (fun i _ => Bi_bd _)
  unfold cntK
  omega
def gcT (r : Nat → Int) (b : Nat) : Int := if r (3 + b) = 2 then tcF r b else 0
def gcF (r : Nat → Int) : Int := 16 * cntK r 1 + sumN (gcT r) 24
def gpT (r : Nat → Int) (b : Nat) : Int := if r (3 + b) = 2 then 16 - tcF r b else 0
def brB (r : Nat → Int) (f : Nat) : Bool := decide (ro r f 0 = 1) && decide (ro r f 2 = 1)
def filF (r : Nat → Int) : Int := sumN (fun f => ro r f 0) 10
def prF (r : Nat → Int) (f : Nat) (w : Nat) : Int := match w with
  | 0 => ro r f 1
  | 1 => ro r f 1 / 16
  | 2 => ro r f 1 % 16
  | 3 => if ro r f 1 % 16 = 0 then -1 else ro r f 3
  | 4 => if ro r f 1 % 16 = 0 then -1 else ro r f 4
  | 5 => ro r f 2
  | _ => ro r f 5
def plB (r : Nat → Int) (f c : Nat) : Int := if ((c / 16 : Nat) : Int) = ro r f 1 / 16 then ro r f 3 else ro r f (6 + c / 16)
def plO (r : Nat → Int) (f c : Nat) : Int := if r (3 + (plB r f c).toNat) = 3 then -1 else 16 * plB r f c + ((c % 16 : Nat) : Int) + (if ((c / 16 : Nat) : Int) = ro r f 1 / 16 then ro r f 4 else 0)
def biF (r : Nat → Int) (b w : Nat) : Int := match w with
  | 0 => r (3 + b)
  | 1 => if r (3 + b) = 3 then 0 else sumN (fun f => Bi (hasT r f b)) 10
  | 2 => if r (3 + b) = 3 then 0 else tcF r b
  | 3 => ((lgF r b : Nat) : Int)
  | _ => ownF r b
def ctF (v : Ct) (w : Nat) : Int := match w with
  | 0 => filF (v 85)
  | 1 => cntK (v 85) 0
  | 2 => cntK (v 85) 1
  | 3 => cntK (v 85) 2
  | 4 => cntK (v 85) 3
  | 5 => gcF (v 85)
  | 6 => sumN (gpT (v 85)) 24
  | 7 => sumN (fun f => Bi (brB (v 85) f)) 10
  | 8 => v 85 0
  | 9 => v 85 1
  | 10 => v 85 2
  | _ => v 84 5
def ccF (r : Nat → Int) (s : Nat) : Bool := decide (((s / 16 : Nat) : Int) ≤ cntK r 0 ∧ (s % 16 = 0 ∨ ((s / 16 : Nat) : Int) < cntK r 0 ∨ gapF r ((s % 16 : Nat) : Int) ≠ -1))
def lastN (p : Nat → Bool) : Nat → Nat
  | 0 => 0
  | n + 1 => if p (n + 1) = true then n + 1 else lastN p n
theorem lastN_t {p : Nat → Bool} {n : Nat} (h : p n = true) : lastN p n = n := by
  cases n with
  | zero => rfl
  | succ n => exact if_pos h
theorem lastN_f {p : Nat → Bool} {n : Nat} (hn : 0 < n) (h : p n = false) : lastN p n = lastN p (n - 1) := by
  cases n with
  | zero => omega
  | succ n => exact if_neg (by rw [h]; decide)
theorem ccF_0 (r : Nat → Int) : ccF r 0 = true := decide_eq_true ⟨(cntK_bd r 0).1, Or.inl rfl⟩
def grF (r : Nat → Int) : Int := if filF r = 10 then -1 else ((lastN (ccF r) 200 : Nat) : Int)
def wkT (r : Nat → Int) (b f : Nat) : Bool := decide (r (3 + b) ≠ 3) && (hasIn r f b && decide (ro r f 2 = 0))
def wkB (r : Nat → Int) (b : Nat) : Int := sumN (fun f => Bi (wkT r b f)) 10
theorem wkB_bd (r : Nat → Int) (b : Nat) : 0 ≤ wkB r b ∧ wkB r b ≤ 10 := by
  have := sumN_bd (g := fun f => Bi (wkT r b f)) (a := 1) (by decide) 10 (fun i _ => Bi_bd _)
  unfold wkB
  omega
def wkN (c : Nat → Int) : Nat → Int × Int
  | 0 => (-1, 0)
  | b + 1 => if (wkN c b).2 < c b then ((b : Int), c b) else wkN c b
theorem wkN_t {c : Nat → Int} {b : Nat} (h : (wkN c b).2 < c b) : wkN c (b + 1) = ((b : Int), c b) := if_pos h
theorem wkN_f {c : Nat → Int} {b : Nat} (h : ¬ (wkN c b).2 < c b) : wkN c (b + 1) = wkN c b := if_neg h
theorem wkN_bd {c : Nat → Int} (hc : ∀ b, 0 ≤ c b ∧ c b ≤ 10) (n : Nat) : 0 ≤ (wkN c n).2 ∧ (wkN c n).2 ≤ 10 := by
  induction n with
  | zero => exact ⟨Int.le_refl 0, show (0 : Int) ≤ 10 by decide⟩
  | succ n ih =>
    by_cases h : (wkN c n).2 < c n
    · rw [wkN_t h]; exact hc n
    · rw [wkN_f h]; exact ih
theorem wkT_no {r : Nat → Int} {b f : Nat} (h : r (3 + b) = 3 ∨ hasIn r f b = false) : wkT r b f = false := by
  unfold wkT
  rcases h with h | h
  · rw [decide_eq_false (fun q => q h), Bool.false_and]
  · rw [h, Bool.false_and, Bool.and_false]
theorem wkT_yes {r : Nat → Int} {b f : Nat} (h1 : r (3 + b) ≠ 3) (h2 : hasIn r f b = true) : wkT r b f = decide (ro r f 2 = 0) := by
  unfold wkT
  rw [decide_eq_true h1, h2, Bool.true_and, Bool.true_and]
