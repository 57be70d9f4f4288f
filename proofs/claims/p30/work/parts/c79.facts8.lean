/-! .. what the law's loops over blocks and cells keep -/
theorem TT.nw {T : Ty} (h : TT T) {N k n : Nat} (hN : 84 ≤ N) : TT (newT T N k n) := fun i t hi => by
  have h84 : i < 84 := (List.getElem?_eq_some_iff.mp hi).1
  exact (newT_o (by omega)).trans (h i t hi)
theorem pcN_i {z : Int} (hz : 0 ≤ z) (q : Nat) : ((pcN z.toNat q : Nat) : Int) + z / 2 ^ q % 2 = ((pcN z.toNat (q + 1) : Nat) : Int) := by
  obtain ⟨x, rfl⟩ : ∃ x : Nat, z = (x : Int) := ⟨z.toNat, by omega⟩
  rw [Int.toNat_natCast, pcN_tb, divI_tb]
  omega
theorem bit0 {z : Int} (hz : 0 ≤ z) {i : Nat} (h : z.toNat.testBit i = false) : z / 2 ^ i % 2 = 0 := by
  obtain ⟨x, rfl⟩ : ∃ x : Nat, z = (x : Int) := ⟨z.toNat, by omega⟩
  rw [Int.toNat_natCast] at h
  rw [divI_tb, h]
  rfl
theorem pw16 {k : Nat} (h : k < 16) : 0 ≤ (1 * 2 ^ k : Int) ∧ (1 * 2 ^ k : Int) < 65536 := by
  have h1 : (2 : Nat) ^ k < 2 ^ 16 := Nat.pow_lt_pow_right (by decide) h
  have e : (1 * 2 ^ k : Int) = ((2 ^ k : Nat) : Int) := by
    rw [Int.one_mul]
    exact (Int.natCast_pow 2 k).symm
  have h2 : ((2 ^ k : Nat) : Int) < ((65536 : Nat) : Int) := Int.ofNat_lt.mpr h1
  rw [e]
  exact ⟨Int.natCast_nonneg _, h2⟩
/-- how many blocks of each kind, among the first -/
def kdX (r : Nat → Int) (n : Nat) : Nat → Int := fun j => sumN (fun b => Bi (decide (biF r b 0 = (j : Int)))) n
theorem kdX_bd (r : Nat → Int) {n : Nat} (hn : n ≤ 24) (j : Nat) : 0 ≤ kdX r n j ∧ kdX r n j ≤ 24 := by
  have := sumN_bd (g := fun b => Bi (decide (biF r b 0 = (j : Int)))) (a := 1) (by decide) n (fun i _ => Bi_bd _)
  unfold kdX
  omega
theorem kdX_s {r : Nat → Int} {b kd : Nat} (h : biF r b 0 = (kd : Int)) : rs (kdX r b) kd (kdX r b kd + 1) = kdX r (b + 1) := by
  funext j
  show rs (kdX r b) kd (kdX r b kd + 1) j = kdX r b j + Bi (decide (biF r b 0 = (j : Int)))
  by_cases e : j = kd
  · subst e
    rw [rs_eq, decide_eq_true h]
    rfl
  · rw [rs_ne e, decide_eq_false (by omega)]
    exact (Int.add_zero _).symm
theorem kdX_c (r : Nat → Int) (j : Nat) : kdX r 24 j = cntK r (j : Int) := rfl
theorem kdX_0 (r : Nat → Int) : (fun _ => (0 : Int)) = kdX r 0 := rfl
theorem brB_t {r : Nat → Int} {f : Nat} (h1 : ro r f 0 = 1) (h2 : prF r f 5 = 1) : brB r f = true := by
  unfold brB
  rw [decide_eq_true h1, decide_eq_true (p := ro r f 2 = 1) h2]
  rfl
theorem brB_f {r : Nat → Int} {f : Nat} (h : ro r f 0 = 1 → prF r f 5 = 1 → False) : brB r f = false := by
  unfold brB
  by_cases h1 : ro r f 0 = 1
  · rw [decide_eq_false (p := ro r f 2 = 1) (fun q => h h1 q), Bool.and_false]
  · rw [decide_eq_false h1, Bool.false_and]
/-- which files a bad block breaks -/
def spB (r : Nat → Int) (b f : Nat) : Bool := decide (ro r f 0 = 1 ∧ prF r f 5 = 0 ∧ ((biF r b 0 = 1 ∧ biF r b 4 = (f : Int)) ∨ (biF r b 0 = 2 ∧ prF r f 3 = (b : Int))))
theorem spB_t {r : Nat → Int} {b f : Nat} (h1 : ro r f 0 = 1) (h2 : prF r f 5 = 0) (h3 : (biF r b 0 = 1 ∧ biF r b 4 = (f : Int)) ∨ (biF r b 0 = 2 ∧ prF r f 3 = (b : Int))) : spB r b f = true := decide_eq_true ⟨h1, h2, h3⟩
theorem spB_f {r : Nat → Int} {b f : Nat} (h : ro r f 0 = 1 → prF r f 5 = 0 → ((biF r b 0 = 1 ∧ biF r b 4 = (f : Int)) ∨ (biF r b 0 = 2 ∧ prF r f 3 = (b : Int))) → False) : spB r b f = false := decide_eq_false (fun q => h q.1 q.2.1 q.2.2)
def bfB (r : Nat → Int) (b f : Nat) : Bool := decide (ro r f 0 = 1) && (spB r b f || decide (prF r f 5 = 1))
theorem bfB_t {r : Nat → Int} {b f : Nat} (h1 : ro r f 0 = 1) (h2 : spB r b f = true ∨ prF r f 5 = 1) : bfB r b f = true := by
  unfold bfB
  rw [decide_eq_true h1, Bool.true_and, Bool.or_eq_true, decide_eq_true_eq]
  exact h2
theorem bfB_f {r : Nat → Int} {b f : Nat} (h : ro r f 0 = 1 → spB r b f = false ∧ prF r f 5 ≠ 1) : bfB r b f = false := by
  unfold bfB
  by_cases h1 : ro r f 0 = 1
  · obtain ⟨a, b⟩ := h h1
    rw [a, decide_eq_false b, Bool.or_self, Bool.and_false]
  · rw [decide_eq_false h1, Bool.false_and]
def beX (r : Nat → Int) (b : Nat) : Nat → (Nat → Int)
  | 0 => fun _ => 0
  | f + 1 => rs (beX r b f) f (Bi (bfB r b f))
theorem beX_at {r : Nat → Int} {b : Nat} : ∀ n g, g < n → beX r b n g = Bi (bfB r b g) := by
  intro n
  induction n with
  | zero => intro g h; exact absurd h (Nat.not_lt_zero g)
  | succ n ih =>
    intro g h
    show rs (beX r b n) n (Bi (bfB r b n)) g = _
    by_cases e : g = n
    · subst e
      exact rs_eq _ _ _
    · rw [rs_ne e]
      exact ih g (by omega)
section P30H
variable {K O Rk Z B S W P r : Nat → Int}
theorem szF_no {f : Nat} (h : ¬ ro r f 0 = 1) : szF r f = 0 := if_neg h
theorem DR.plF (H : DR K O Rk Z B S W P r) {f q : Nat} (hf : f < 10) (hq : q < szF r f) :
    (-1 ≤ plO r f q ∧ plO r f q < 384) ∧ (plO r f q < 0 → prF r f 5 = 1) ∧ ∀ p : Nat, plO r f q = (p : Int) → biF r (p / 16) 0 ≠ 0 ∧ biF r (p / 16) 0 ≠ 3 ∧ (((szF r f : Nat) : Int) / 16 * 16 ≤ (q : Int) → biF r (p / 16) 0 = 2) ∧ ((q : Int) < ((szF r f : Nat) : Int) / 16 * 16 → biF r (p / 16) 0 ≠ 2 ∧ (p : Int) % 16 = (q : Int) % 16 ∧ biF r (p / 16) 4 = (f : Int)) := by
  have hfi := szF_in hq
  obtain ⟨s1, s2, s3, s4⟩ := szF_yes H hf hfi
  obtain ⟨-, -, -, -, -, p5, -⟩ := H.pf hf hfi
  obtain ⟨b, hb, h1⟩ := H.plc hf hq
  refine ⟨H.pl384 hf hq, fun hn => ?_, fun p hp => ?_⟩
  · rcases h1 with ⟨-, h1, -⟩ | ⟨-, -, -, -, h1⟩ | ⟨-, -, -, h2, -, -, h1⟩
    · rw [p5]
      exact h1
    · omega
    · omega
  · have hpb : p / 16 = b := by
      rcases h1 with ⟨-, -, h1⟩ | ⟨-, -, -, -, h1⟩ | ⟨-, -, -, h2, h3, h4, h1⟩ <;> omega
    rw [hpb]
    have e0 : biF r b 0 = K b := (H.bp (w := 0) hb (by decide)).symm
    have e4 : biF r b 4 = if K b = 1 then O b else -1 := (H.bp (w := 4) hb (by decide)).symm
    rw [e0, e4]
    rcases h1 with ⟨-, -, h1⟩ | ⟨k1, k2, k3, k4, h1⟩ | ⟨k1, k2, k3, h2, h3, h4, h1⟩
    · omega
    · rw [if_pos k1]
      exact ⟨by omega, by omega, fun _ => by omega, fun _ => ⟨by omega, by omega, k2⟩⟩
    · exact ⟨by omega, by omega, fun _ => k1, fun _ => by omega⟩
theorem DR.cuLW (H : DR K O Rk Z B S W P r) {f : Nat} (hf : f < 10) (h : cuL r f (szF r f) = true) : prF r f 5 = 1 := by
  obtain ⟨q, hq, h2⟩ := orN_iff.mp h
  exact (H.plF hf hq).2.1 (of_decide_eq_true h2)
theorem DR.gc5 (H : DR K O Rk Z B S W P r) : gcF r = ((fiC r 10 : Nat) : Int) := by
  obtain ⟨h1, h2⟩ := H.fiOC 10 (Nat.le_refl _)
  rw [← h2]
  have e : sumN (fun b => ((pcN (fiX r 10 b).toNat 16 : Nat) : Int)) 24 = sumN (fun b => 16 * Bi (decide (r (3 + b) = 1)) + gcT r b) 24 := sumN_congr 24 (fun b hb => (H.finB h1 hb).2.2.2.2.2.2.2.1)
  have e2 : ∀ n, sumN (fun b => 16 * Bi (decide (r (3 + b) = 1)) + gcT r b) n = 16 * sumN (fun b => Bi (decide (r (3 + b) = 1))) n + sumN (gcT r) n := by
    intro n
    induction n with
    | zero => rfl
    | succ n ih =>
      show sumN _ n + (16 * Bi (decide (r (3 + n) = 1)) + gcT r n) = 16 * (sumN _ n + Bi (decide (r (3 + n) = 1))) + (sumN (gcT r) n + gcT r n)
      rw [ih]
      omega
  rw [e, e2]
  rfl
theorem DR.splQ (H : DR K O Rk Z B S W P r) {b : Nat} (hb : b < 24) (h3 : r (3 + b) ≠ 3) :
    spV r (b : Int) 10 = sumN (fun f => Bi (spB r b f)) 10 ∧ cntK (rs (spN r (b : Int) 10) (3 + b) 3) 3 = cntK r 3 + 1 ∧ rs (spN r (b : Int) 10) (3 + b) 3 0 = r 0 ∧ (∀ g, g < 10 → ro (rs (spN r (b : Int) 10) (3 + b) 3) g 0 = ro r g 0) ∧ (∀ g, g < 10 → ro r g 0 = 1 → prF (rs (spN r (b : Int) 10) (3 + b) 3) g 5 = Bi (bfB r b g)) ∧ (wkN (wkB (rs (spN r (b : Int) 10) (3 + b) 3)) 24).1 ≠ (b : Int) := by
  obtain ⟨_, rfl, a1, a2, a3, a4, a5, a6⟩ := H.splF hb h3
  have hsp : ∀ g, spB r b g = true ↔ CTailBlocksLaw_law_r6291_d6fea3.spl0 r b g := fun g => decide_eq_true_iff
  refine ⟨a1 (fun f => spB r b f) (fun f _ => hsp f), a2, a3, a4, fun g hg hgi => ?_, a6⟩
  obtain ⟨b1, b2⟩ := a5 g hg hgi
  cases q : spB r b g with
  | true =>
    rw [b1 ((hsp g).mp q), bfB_t hgi (Or.inl q)]
    rfl
  | false =>
    rw [b2 (fun c => by rw [(hsp g).mpr c] at q; cases q)]
    obtain ⟨-, -, -, -, -, p5, -⟩ := H.pf hg hgi
    obtain ⟨-, -, -, w3, -⟩ := H.wf hg (H.zf hg hgi)
    by_cases e : prF r g 5 = 1
    · rw [bfB_t hgi (Or.inr e), e]
      rfl
    · rw [bfB_f (fun _ => ⟨q, e⟩)]
      show prF r g 5 = 0
      omega
theorem wkN_b2 (c : Nat → Int) : -1 ≤ (wkN c 24).1 ∧ (wkN c 24).1 < 24 := by
  rcases (wkN_pos (c := c) 24).2 with h | ⟨b, hb, h, -⟩ <;> omega
end P30H
