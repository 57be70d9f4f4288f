/-! .. as the law's methods ask for it -/
theorem lastN_le2 (q : Nat → Bool) : ∀ n, lastN q n ≤ n := by
  intro n
  induction n with
  | zero => exact Nat.le_refl _
  | succ n ih =>
    show (if q (n + 1) = true then n + 1 else lastN q n) ≤ n + 1
    split <;> omega
theorem grF_b2 (r : Nat → Int) : -1 ≤ grF r ∧ grF r ≤ 200 := by
  have h := lastN_le2 (ccF r) 200
  unfold grF
  split <;> omega
def caB (r : Nat → Int) (s : Nat) : Bool := decide (loN r < 10 ∧ ((s : Nat) : Int) / 16 ≤ cntK r 0 ∧ (((s : Nat) : Int) % 16 = 0 ∨ ((s : Nat) : Int) / 16 < cntK r 0 ∨ orN (fun b => decide (((s : Nat) : Int) % 16 ≤ biF r b 3)) 24 = true))
theorem caB_t {r : Nat → Int} {s : Nat} (h1 : loN r < 10) (h2 : ((s : Nat) : Int) / 16 ≤ cntK r 0) (h3 : ((s : Nat) : Int) % 16 = 0 ∨ ((s : Nat) : Int) / 16 < cntK r 0 ∨ orN (fun b => decide (((s : Nat) : Int) % 16 ≤ biF r b 3)) 24 = true) : caB r s = true := decide_eq_true ⟨h1, h2, h3⟩
theorem caB_f {r : Nat → Int} {s : Nat} (h : loN r < 10 → ((s : Nat) : Int) / 16 ≤ cntK r 0 → (((s : Nat) : Int) % 16 = 0 ∨ ((s : Nat) : Int) / 16 < cntK r 0 ∨ orN (fun b => decide (((s : Nat) : Int) % 16 ≤ biF r b 3)) 24 = true) → False) : caB r s = false := decide_eq_false (fun q => h q.1 q.2.1 q.2.2)
theorem caB_can {r : Nat → Int} {s : Nat} : caB r s = true ↔ canC r s := by
  unfold caB canC
  rw [decide_eq_true_eq, (loN_10 r).2.1, orN_iff]
  have e1 : ((s : Nat) : Int) / 16 = ((s / 16 : Nat) : Int) := by omega
  have e2 : ((s : Nat) : Int) % 16 = ((s % 16 : Nat) : Int) := by omega
  rw [e1, e2]
  constructor
  · rintro ⟨a, b, c⟩
    refine ⟨a, b, ?_⟩
    rcases c with c | c | ⟨k, k1, k2⟩
    · exact Or.inl (by omega)
    · exact Or.inr (Or.inl c)
    · exact Or.inr (Or.inr ⟨k, k1, of_decide_eq_true k2⟩)
  · rintro ⟨a, b, c⟩
    refine ⟨a, b, ?_⟩
    rcases c with c | c | ⟨k, k1, k2⟩
    · exact Or.inl (by omega)
    · exact Or.inr (Or.inl c)
    · exact Or.inr (Or.inr ⟨k, k1, decide_eq_true k2⟩)
section P30G
variable {K O Rk Z B S W P r : Nat → Int}
theorem DR.prZ (H : DR K O Rk Z B S W P r) {f : Nat} (hf : f < 10) (hfi : ro r f 0 = 1) : 0 ≤ prF r f 0 ∧ prF r f 0 ≤ 200 := by
  obtain ⟨p0, -⟩ := H.pf hf hfi
  obtain ⟨-, -, -, -, w4, w5⟩ := H.wf hf (H.zf hf hfi)
  omega
theorem DR.fileQ (H : DR K O Rk Z B S W P r) (hk : PLk r) {f : Nat} (hf : f < 10) (hfi : ro r f 0 = 1) :
    prF r f 1 = prF r f 0 / 16 ∧ prF r f 2 = prF r f 0 % 16 ∧ (0 ≤ prF r f 0 ∧ prF r f 0 ≤ 200) ∧ ((prF r f 0 % 16 = 0 ∧ prF r f 3 = -1 ∧ prF r f 4 = -1) ∨ (0 < prF r f 0 % 16 ∧ 0 ≤ prF r f 3 ∧ 0 ≤ prF r f 4 ∧ prF r f 4 + prF r f 0 % 16 ≤ 16 ∧ 1 ≤ prF r f 6)) := by
  obtain ⟨p0, p1, p2, p3, p4, p5, p6⟩ := H.pf hf hfi
  have hz := H.zf hf hfi
  have h1 := H.prZ hf hfi
  have h2 := H.tlB hf hfi
  have h3 := H.plk.mp hk f hf hz
  refine ⟨by omega, by omega, h1, ?_⟩
  rcases h2 with h2 | h2
  · have h4 := h3 h2.1
    exact Or.inr ⟨by omega, by omega, by omega, by omega, by omega⟩
  · exact Or.inl ⟨by omega, by omega, by omega⟩
theorem DR.growQ (H : DR K O Rk Z B S W P r) (h0 : 0 ≤ r 0 ∧ r 0 < 1000000) (hP : ∀ g, g < 10 → 0 ≤ P g ∧ P g ≤ 1000000) {f n : Nat} (hf : f < 10) (hfi : ro r f 0 = 1) (hn : 1 ≤ n ∧ n ≤ 200) :
    (∀ g, g < 10 → ro (opR r (gwO r f n)) g 0 = ro r g 0) ∧
      ((opV (gwO r f n) = -1 ∧ opR r (gwO r f n) 0 = r 0 + 1 ∧ prF (opR r (gwO r f n)) f 0 = prF r f 0 ∧ prF (opR r (gwO r f n)) f 3 = prF r f 3 ∧ prF (opR r (gwO r f n)) f 4 = prF r f 4 ∧ (prF (opR r (gwO r f n)) f 5 = 1 ∨ 200 < prF r f 0 + (n : Int) ∨ cntK (opR r (gwO r f n)) 0 < 13)) ∨
       (opV (gwO r f n) = 0 ∧ opR r (gwO r f n) 0 = r 0 ∧ prF (opR r (gwO r f n)) f 0 = prF r f 0 + (n : Int) ∧ prF (opR r (gwO r f n)) f 5 = 0 ∧ 0 < prF r f 0 % 16 ∧ prF r f 0 / 16 = (prF r f 0 + (n : Int)) / 16 ∧ prF (opR r (gwO r f n)) f 3 = prF r f 3 ∧ prF (opR r (gwO r f n)) f 4 = prF r f 4 ∧ prF (opR r (gwO r f n)) f 6 = prF r f 6) ∨
       (opV (gwO r f n) = 1 ∧ opR r (gwO r f n) 0 = r 0 ∧ prF (opR r (gwO r f n)) f 0 = prF r f 0 + (n : Int) ∧ prF (opR r (gwO r f n)) f 5 = 0 ∧ (((prF r f 0 + (n : Int)) % 16 = 0 ∧ prF (opR r (gwO r f n)) f 6 = prF r f 6) ∨ ((prF r f 0 + (n : Int)) % 16 ≠ 0 ∧ prF (opR r (gwO r f n)) f 6 = prF r f 6 + 1)))) := by
  obtain ⟨_, _, rfl, rfl, hex, hor⟩ := H.growF h0 hP hf hfi hn
  refine ⟨hex, ?_⟩
  rcases hor with ⟨a, b, c, d⟩ | h | ⟨a, b, c, d, e⟩
  · exact Or.inl ⟨a, b, c 0 (by decide), c 3 (by decide), c 4 (by decide), d⟩
  · exact Or.inr (Or.inl h)
  · refine Or.inr (Or.inr ⟨a, b, c, d, ?_⟩)
    by_cases q : (prF r f 0 + (n : Int)) % 16 = 0
    · rw [if_pos q] at e
      exact Or.inl ⟨q, by omega⟩
    · rw [if_neg q] at e
      exact Or.inr ⟨q, e⟩
theorem DR.cutQ (H : DR K O Rk Z B S W P r) (h0 : 0 ≤ r 0 ∧ r 0 < 1000000) {f n : Nat} (hf : f < 10) (hfi : ro r f 0 = 1) (hn : 1 ≤ n ∧ n ≤ 200) :
    (∀ g, g < 10 → ro (opR r (cuO r f n)) g 0 = ro r g 0) ∧
      (((prF r f 5 ≠ 0 ∨ prF r f 0 < (n : Int)) ∧ opV (cuO r f n) = -1 ∧ opR r (cuO r f n) 0 = r 0 + 1 ∧ prF (opR r (cuO r f n)) f 0 = prF r f 0 ∧ prF (opR r (cuO r f n)) f 3 = prF r f 3 ∧ prF (opR r (cuO r f n)) f 4 = prF r f 4) ∨
       (prF r f 5 = 0 ∧ (n : Int) ≤ prF r f 0 ∧ opV (cuO r f n) = prF r f 0 - (n : Int) ∧ opR r (cuO r f n) 0 = r 0 ∧ prF (opR r (cuO r f n)) f 0 = prF r f 0 - (n : Int) ∧ (¬ (prF r f 0 - (n : Int)) / 16 = prF r f 0 / 16 ∨ ¬ 0 < (prF r f 0 - (n : Int)) % 16 ∨ (prF (opR r (cuO r f n)) f 3 = prF r f 3 ∧ prF (opR r (cuO r f n)) f 4 = prF r f 4)))) := by
  obtain ⟨_, _, rfl, rfl, hex, hor⟩ := H.cutF h0 hf hfi hn
  refine ⟨hex, ?_⟩
  rcases hor with ⟨a, b, c, d⟩ | ⟨a, b, c, d, e, f1⟩
  · exact Or.inl ⟨a, b, c, d 0 (by decide), d 3 (by decide), d 4 (by decide)⟩
  · refine Or.inr ⟨a, b, c, d, e, ?_⟩
    by_cases q1 : (prF r f 0 - (n : Int)) / 16 = prF r f 0 / 16
    · by_cases q2 : 0 < (prF r f 0 - (n : Int)) % 16
      · exact Or.inr (Or.inr (f1 q1 q2))
      · exact Or.inr (Or.inl q2)
    · exact Or.inl q1
theorem DR.packQ (H : DR K O Rk Z B S W P r) (h1 : 0 ≤ r 1 ∧ r 1 < 1000000) :
    ((pkV r = -1 ∧ cntK (pkRR r) 2 = cntK r 2 ∧ pkRR r 1 = r 1) ∨ (0 ≤ pkV r ∧ cntK (pkRR r) 2 = cntK r 2 - pkV r ∧ pkRR r 1 = r 1 + 1)) ∧ fbG (pkRR r) = fbG r ∧ (∀ g, g < 10 → ro (pkRR r) g 0 = ro r g 0) ∧ (0 < sumN (fun f => Bi (brB (pkRR r) f)) 10 ∨ fbG (pkRR r) ≤ cntK (pkRR r) 2) := by
  obtain ⟨_, _, rfl, rfl, a, b, c, -, e, f, g⟩ := H.packF h1
  refine ⟨?_, e, f, g⟩
  by_cases q : pkV r < 0
  · rw [if_pos q] at b c
    exact Or.inl ⟨by omega, by omega, by omega⟩
  · rw [if_neg q] at b c
    exact Or.inr ⟨by omega, b, c⟩
theorem DR.comeY (H : DR K O Rk Z B S W P r) (h0 : 0 ≤ r 0 ∧ r 0 < 1000000) {x : Nat} (hx : x ≤ 200) (hca : caB r x = true) : ∃ f0 : Nat, f0 < 10 ∧ (crV r x = (f0 : Int) ∧ (f0 = loN r ∧ crR r x 0 = r 0) ∧ (x : Int) ≤ grF r ∧ (∀ g, g < 10 → g ≠ f0 → ro (crR r x) g 0 = ro r g 0) ∧ ro (crR r x) f0 0 = 1 ∧ prF (crR r x) f0 0 = (x : Int) ∧ ((x % 16 = 0 ∧ prF (crR r x) f0 6 = 0) ∨ (x % 16 ≠ 0 ∧ prF (crR r x) f0 6 = 1))) := by
  obtain ⟨_, _, rfl, rfl, hor⟩ := H.createF h0 hx
  rcases hor with ⟨a, f, b1, b2, b3, b4, b5, b6, b7, b8, b9, b10⟩ | ⟨a, -⟩
  · refine ⟨f, b1, b2, ⟨?_, b4⟩, b5, b10, b6, b7, ?_⟩
    · have := (loN_10 r).2.2 (by omega)
      omega
    · by_cases q : x % 16 = 0
      · rw [if_pos q] at b8
        exact Or.inl ⟨q, b8⟩
      · rw [if_neg q] at b8
        exact Or.inr ⟨q, b8⟩
  · exact absurd (caB_can.mp hca) a
theorem DR.comeN (H : DR K O Rk Z B S W P r) (h0 : 0 ≤ r 0 ∧ r 0 < 1000000) {x : Nat} (hx : x ≤ 200) (hca : caB r x = false) : crV r x = -1 ∧ crR r x 0 = r 0 + 1 ∧ (∀ g, g < 10 → ro (crR r x) g 0 = ro r g 0) ∧ ((loN r = 10 ∧ grF r = -1) ∨ (loN r < 10 ∧ 0 ≤ grF r ∧ grF r ≠ (x : Int))) := by
  obtain ⟨_, _, rfl, rfl, hor⟩ := H.createF h0 hx
  rcases hor with ⟨a, -⟩ | ⟨a, b1, b2, b3, b4, b5⟩
  · rw [caB_can.mpr a] at hca
    cases hca
  · refine ⟨b1, b2, b3, ?_⟩
    obtain ⟨l1, l2, l3⟩ := loN_10 r
    by_cases q : frnF r = -1
    · refine Or.inl ⟨?_, b4 q⟩
      unfold loN
      rw [if_pos q]
    · exact Or.inr ⟨l2.mp q, b5 q⟩
end P30G
