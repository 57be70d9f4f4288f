/-! .. a file that comes, is deleted, a block that turns bad -/
section P30B
variable {K O Rk Z B S W P r : Nat → Int}
/-- what the law takes for 'a file can come' -/
def canC (r : Nat → Int) (s : Nat) : Prop := frnF r ≠ -1 ∧ ((s / 16 : Nat) : Int) ≤ cntK r 0 ∧ (s % 16 = 0 ∨ ((s / 16 : Nat) : Int) < cntK r 0 ∨ ∃ b, b < 24 ∧ ((s % 16 : Nat) : Int) ≤ biF r b 3)
theorem canC_cc {r : Nat → Int} {s : Nat} : canC r s ↔ (frnF r ≠ -1 ∧ ccF r s = true) := by
  have hg : s % 16 ≠ 0 → (gapF r ((s % 16 : Nat) : Int) ≠ -1 ↔ ∃ b, b < 24 ∧ ((s % 16 : Nat) : Int) ≤ biF r b 3) := fun h0 => by
    rw [gapF_mlg (by omega)]
    constructor
    · intro h
      unfold mlg at h
      rcases maxN_at (g := lgF r) 24 with e | ⟨b, hb, e⟩
      · rw [e] at h
        omega
      · rw [e] at h
        exact ⟨b, hb, h⟩
    · rintro ⟨b, hb, h⟩
      have h2 : ((lgF r b : Nat) : Int) ≤ ((mlg r : Nat) : Int) := Int.ofNat_le.mpr (maxN_ge (g := lgF r) 24 b hb)
      have h3 : ((s % 16 : Nat) : Int) ≤ ((lgF r b : Nat) : Int) := h
      exact Int.le_trans h3 h2
  unfold canC ccF
  rw [decide_eq_true_eq]
  constructor
  · rintro ⟨a, b, c⟩
    refine ⟨a, b, ?_⟩
    rcases c with c | c | c
    · exact Or.inl c
    · exact Or.inr (Or.inl c)
    · by_cases e : s % 16 = 0
      · exact Or.inl e
      · exact Or.inr (Or.inr ((hg e).mpr c))
  · rintro ⟨a, b, c⟩
    refine ⟨a, b, ?_⟩
    rcases c with c | c | c
    · exact Or.inl c
    · exact Or.inr (Or.inl c)
    · by_cases e : s % 16 = 0
      · exact Or.inl e
      · exact Or.inr (Or.inr ((hg e).mp c))
theorem DR.createF (H : DR K O Rk Z B S W P r) (h0 : 0 ≤ r 0 ∧ r 0 < 1000000) {s : Nat} (hs : s ≤ 200) :
    ∃ (t : Int) (R : Nat → Int), crV r s = t ∧ crR r s = R ∧
      ((canC r s ∧ ∃ f : Nat, f < 10 ∧ t = (f : Int) ∧ frnF r = (f : Int) ∧ R 0 = r 0 ∧ (s : Int) ≤ grF r ∧ ro R f 0 = 1 ∧ prF R f 0 = (s : Int) ∧ prF R f 6 = (if s % 16 = 0 then 0 else 1) ∧ ro r f 0 = 0 ∧ ∀ g, g < 10 → g ≠ f → ro R g 0 = ro r g 0) ∨
       (¬ canC r s ∧ t = -1 ∧ R 0 = r 0 + 1 ∧ (∀ g, g < 10 → ro R g 0 = ro r g 0) ∧ (frnF r = -1 → grF r = -1) ∧ (frnF r ≠ -1 → 0 ≤ grF r ∧ grF r ≠ (s : Int)))) := by
  obtain ⟨g1, g2⟩ := H.create hs
  have hln := H.ln
  have hlf := H.lnf
  have hc0 : ccF r 0 = true := decide_eq_true ⟨by have := (cntK_bd r 0).1; exact this, Or.inl rfl⟩
  obtain ⟨l1, l2, l3⟩ := lastN_at hc0 200
  have hgr : lnN Z ≠ -1 → grF r = ((lastN (ccF r) 200 : Nat) : Int) := fun h => if_neg (fun q => h (hlf.mpr q))
  cases hh : hrB K Z B S (s : Int) with
  | true =>
    obtain ⟨f, r3, k0, k1, k2, k3, k4, k5⟩ := g2 hh
    have hl : lnN Z ≠ -1 := by omega
    have hcc : ccF r s = true := by rw [← H.hrc hl s]; exact hh
    have hzf := (lnN_z k1).2
    have hex : ∀ g, g < 10 → (g ≠ f → ro r3 g 0 = ro r g 0) ∧ (g = f → ro r3 g 0 = 1 ∧ ro r g 0 = 0) := fun g hg => by
      have e1 := (H.1 g hg).ex
      have e2 := (k4.1 g hg).ex
      refine ⟨fun e => ?_, fun e => ?_⟩
      · rw [rs_ne e, rs_ne e] at e2
        omega
      · subst e
        rw [rs_eq] at e2
        omega
    have hfi := ((hex f k0).2 rfl).1
    have hri := ((hex f k0).2 rfl).2
    obtain ⟨t0, t1, t2, t3, t4, t5, t6⟩ := k4.pf k0 hfi
    have htl := k4.tlB k0 hfi
    rw [rs_eq] at t0 htl
    have hPf : P f = 0 := ((H.1 f k0).no hzf).2.2.2.2.2.2
    refine ⟨(f : Int), r3, ?_, ?_, Or.inl ⟨canC_cc.mpr ⟨by rw [k2]; omega, hcc⟩, f, k0, rfl, k2, k5 0 (by decide), ?_, hfi, t0, ?_, hri, fun g hg e => (hex g hg).1 e⟩⟩
    · unfold crV
      rw [k3]
      exact k2
    · unfold crR
      rw [k3]
    · rw [hgr hl]
      by_cases e : lastN (ccF r) 200 < s
      · rw [l3 s e hs] at hcc
        cases hcc
      · omega
    · rw [t6]
      by_cases hp : rbP f K (rs Z f 0) B S O Rk (r 2) 0 s = -1
      · obtain ⟨-, e2, -, e4⟩ := rb_no (P := P) hp
        rw [e4, hPf]
        rw [e2, rs_eq] at htl
        rw [if_pos (by omega)]
      · have hm : ¬ s % 16 = 0 := fun q => hp (if_pos q)
        have e4 : rbQ f K (rs Z f 0) B S O Rk P (r 2) 0 s f = wr (P f + 1) := by
          unfold rbQ
          rw [if_neg hp, rs_eq]
        rw [e4, if_neg hm, hPf]
        decide
  | false =>
    have hn := g1 hh
    refine ⟨-1, rfR r, ?_, ?_, Or.inr ⟨fun q => ?_, rfl, rfR_0 r h0, fun g _ => rs_ne (by omega) _, fun q => if_pos (hlf.mp (by rw [hln]; exact q)), fun q => ?_⟩⟩
    · unfold crV
      rw [hn]
    · unfold crR
      rw [hn]
    · obtain ⟨a, b⟩ := canC_cc.mp q
      rw [← H.hrc (by rw [hln]; exact a) s, hh] at b
      cases b
    · have hl : lnN Z ≠ -1 := by rw [hln]; exact q
      rw [hgr hl]
      refine ⟨by omega, fun e => ?_⟩
      have e2 : lastN (ccF r) 200 = s := by omega
      rw [e2, ← H.hrc hl s, hh] at l1
      cases l1
theorem DR.delF (H : DR K O Rk Z B S W P r) {f : Nat} (hf : f < 10) (hfi : ro r f 0 = 1) :
    dlV r f = cntK (dlR r f) 0 - cntK r 0 ∧ dlR r f 0 = r 0 ∧ ro (dlR r f) f 0 = 0 ∧ ∀ g, g < 10 → g ≠ f → ro (dlR r f) g 0 = ro r g 0 := by
  have hz := H.zf hf hfi
  obtain ⟨H2, hv, hlo⟩ := H.del hf hz
  refine ⟨?_, hlo 0 (by decide), ?_, fun g hg e => ?_⟩
  · have hct := dwS2_ct (f : Int) 0 (dtK K Z B S f) O Rk 24
    have h1 : cntK (dlR r f) 0 = sumN (fun b => Bi (decide (dtK K Z B S f b = 0))) 24 + sumN (fun b => Bi (decide ((O b = (f : Int) ∧ 0 ≤ Rk b) ∧ dtK K Z B S f b = 1))) 24 := by
      rw [← sumN_add, ← H2.cnt]
      refine sumN_congr 24 (fun b hb => ?_)
      rw [(dwS2_at (f : Int) 0 (dtK K Z B S f) O Rk 24 b).1]
      by_cases q : (O b = (f : Int) ∧ 0 ≤ Rk b) ∧ dtK K Z B S f b = 1
      · rw [if_pos ⟨hb, q⟩, decide_eq_true q, decide_eq_false (p := dtK K Z B S f b = 0) (by omega)]
        rfl
      · rw [if_neg (fun c => q c.2), decide_eq_false q]
        show _ = _ + 0
        omega
    have h2 : sumN (fun b => Bi (decide (dtK K Z B S f b = 0))) 24 = cntK r 0 + dtV K Z B S f := by
      rw [← H.cnt]
      unfold dtK dtV
      by_cases hB : B f = -1
      · rw [if_pos hB, if_pos hB]
        omega
      · rw [if_neg hB, if_neg hB]
        obtain ⟨-, -, -, -, -, -, hB2, -⟩ := (H.1 f hf).tl hB
        obtain ⟨b0, e0⟩ : ∃ b0 : Nat, B f = (b0 : Int) := ⟨(B f).toNat, by omega⟩
        rw [e0, Int.toNat_natCast]
        unfold feK feV
        by_cases q : K b0 = 2 ∧ tkA Z (rs B f (-1)) (rs S f (-1)) (b0 : Int) (-1) = 0
        · rw [if_pos q, if_pos q]
          have h3 := sumN_one (g := fun b => Bi (decide (K b = 0))) (g2 := fun b => Bi (decide (rs K b0 0 b = 0))) (b0 := b0) (x := 1) (fun b hb => by
            show Bi (decide (rs K b0 0 b = 0)) = Bi (decide (K b = 0))
            rw [rs_ne hb]) (by
            show Bi (decide (rs K b0 0 b0 = 0)) = Bi (decide (K b0 = 0)) + 1
            rw [rs_eq, decide_eq_false (p := K b0 = 0) (by omega)]
            rfl) 24
          rw [if_pos (by omega)] at h3
          exact h3
        · rw [if_neg q, if_neg q]
          omega
    rw [h1, h2, ← hv, hct]
    omega
  · have h := (H2.1 f hf).ex
    rw [rs_eq] at h
    omega
  · have h := (H2.1 g hg).ex
    have h3 := (H.1 g hg).ex
    rw [rs_ne e] at h
    omega
/-- which files a bad block breaks, as the law tells it -/
def spl0 (r : Nat → Int) (b f : Nat) : Prop := ro r f 0 = 1 ∧ prF r f 5 = 0 ∧ ((biF r b 0 = 1 ∧ biF r b 4 = (f : Int)) ∨ (biF r b 0 = 2 ∧ prF r f 3 = (b : Int)))
theorem DR.spl0 (H : DR K O Rk Z B S W P r) {b f : Nat} (hb : b < 24) (hf : f < 10) (h3 : r (3 + b) ≠ 3) : CTailBlocksLaw_law_r6291_d6fea3.spl0 r b f ↔ (hsB O Z B f b = true ∧ W f = 0) := by
  have hk := H.kind hb
  have e4 := H.bp (w := 4) hb (by decide)
  have e0 : biF r b 0 = K b := (H.bp (w := 0) hb (by decide)).symm
  have e4 : biF r b 4 = if K b = 1 then O b else -1 := e4.symm
  obtain ⟨-, d2, d3, d4, d5, d6, d7, -⟩ := H.2.1 b hb
  clear d3 d6
  unfold CTailBlocksLaw_law_r6291_d6fea3.spl0 hsB
  rw [e0, e4, Bool.and_eq_true, Bool.or_eq_true, decide_eq_true_eq, decide_eq_true_eq, decide_eq_true_eq]
  constructor
  · rintro ⟨a1, a2, a3⟩
    obtain ⟨-, -, -, p3, -, p5, -⟩ := H.pf hf a1
    rw [p5] at a2
    rw [p3] at a3
    refine ⟨⟨H.zf hf a1, ?_⟩, a2⟩
    rcases a3 with ⟨c1, c2⟩ | ⟨c1, c2⟩
    · rw [if_pos c1] at c2
      exact Or.inl c2
    · exact Or.inr c2
  · rintro ⟨⟨a1, a2⟩, a3⟩
    have hfi : ro r f 0 = 1 := H.zf2 hf a1
    obtain ⟨-, -, -, p3, -, p5, -⟩ := H.pf hf hfi
    rw [p5, p3]
    refine ⟨hfi, a3, ?_⟩
    rcases a2 with c | c
    · have q := d4 (by omega)
      have q1 : K b = 1 := by omega
      exact Or.inl ⟨q1, by rw [if_pos q1]; exact c⟩
    · have q := d7 f hf c
      exact Or.inr ⟨by omega, c⟩
theorem tbS_at {O Z B W : Nat → Int} {b : Nat} : ∀ n f, (tbS O Z B W b n).1 f = if f < n ∧ hsB O Z B f b = true ∧ W f = 0 then 1 else W f := by
  intro n
  induction n with
  | zero => intro f; rw [if_neg (by omega)]; rfl
  | succ n ih =>
    intro f
    have hn := ih n
    rw [if_neg (by omega)] at hn
    show (if hsB O Z B n b = true ∧ (tbS O Z B W b n).1 n = 0 then (rs (tbS O Z B W b n).1 n 1, (tbS O Z B W b n).2 + 1) else tbS O Z B W b n).1 f = _
    rw [hn]
    by_cases q : hsB O Z B n b = true ∧ W n = 0
    · rw [if_pos q]
      show rs (tbS O Z B W b n).1 n 1 f = _
      by_cases e : f = n
      · subst e
        rw [rs_eq, if_pos ⟨by omega, q⟩]
      · rw [rs_ne e, ih f]
        by_cases q2 : f < n ∧ hsB O Z B f b = true ∧ W f = 0
        · rw [if_pos q2, if_pos ⟨by omega, q2.2⟩]
        · rw [if_neg q2, if_neg (fun c => q2 ⟨by omega, c.2⟩)]
    · rw [if_neg q, ih f]
      by_cases q2 : f < n ∧ hsB O Z B f b = true ∧ W f = 0
      · rw [if_pos q2, if_pos ⟨by omega, q2.2⟩]
      · rw [if_neg q2, if_neg (fun c => q2 ⟨by
          rcases Nat.lt_or_ge f n with h | h
          · exact h
          · have e : f = n := by omega
            subst e
            exact absurd c.2 q, c.2⟩)]
theorem tbS_ct {O Z B W : Nat → Int} {b : Nat} : ∀ n, (((tbS O Z B W b n).2 : Nat) : Int) = sumN (fun f => Bi (decide (hsB O Z B f b = true ∧ W f = 0))) n := by
  intro n
  induction n with
  | zero => rfl
  | succ n ih =>
    have hn := tbS_at (O := O) (Z := Z) (B := B) (W := W) (b := b) n n
    rw [if_neg (by omega)] at hn
    show (((if hsB O Z B n b = true ∧ (tbS O Z B W b n).1 n = 0 then (rs (tbS O Z B W b n).1 n 1, (tbS O Z B W b n).2 + 1) else tbS O Z B W b n).2 : Nat) : Int) = sumN _ n + Bi (decide (hsB O Z B n b = true ∧ W n = 0))
    rw [hn, ← ih]
    by_cases q : hsB O Z B n b = true ∧ W n = 0
    · rw [if_pos q, decide_eq_true q]
      rfl
    · rw [if_neg q, decide_eq_false q]
      exact (Int.add_zero _).symm
theorem wkN_pos {c : Nat → Int} : ∀ n, 0 ≤ (wkN c n).2 ∧ ((wkN c n).1 = -1 ∨ ∃ b, b < n ∧ (wkN c n).1 = (b : Int) ∧ 0 < c b) := by
  intro n
  induction n with
  | zero => exact ⟨Int.le_refl 0, Or.inl rfl⟩
  | succ n ih =>
    obtain ⟨h1, h2⟩ := ih
    by_cases q : (wkN c n).2 < c n
    · rw [wkN_t q]
      exact ⟨by show 0 ≤ c n; omega, Or.inr ⟨n, by omega, rfl, by omega⟩⟩
    · rw [wkN_f q]
      refine ⟨h1, ?_⟩
      rcases h2 with h2 | ⟨b, hb, h2⟩
      · exact Or.inl h2
      · exact Or.inr ⟨b, by omega, h2⟩
theorem DR.splF (H : DR K O Rk Z B S W P r) {b : Nat} (hb : b < 24) (h3 : r (3 + b) ≠ 3) :
    ∃ R, rs (spN r (b : Int) 10) (3 + b) 3 = R ∧ (∀ p : Nat → Bool, (∀ f, f < 10 → (p f = true ↔ CTailBlocksLaw_law_r6291_d6fea3.spl0 r b f)) → spV r (b : Int) 10 = sumN (fun f => Bi (p f)) 10) ∧
      cntK R 3 = cntK r 3 + 1 ∧ R 0 = r 0 ∧ (∀ g, g < 10 → ro R g 0 = ro r g 0) ∧ (∀ g, g < 10 → ro r g 0 = 1 → (CTailBlocksLaw_law_r6291_d6fea3.spl0 r b g → prF R g 5 = 1) ∧ (¬ CTailBlocksLaw_law_r6291_d6fea3.spl0 r b g → prF R g 5 = prF r g 5)) ∧ (wkN (wkB R) 24).1 ≠ (b : Int) := by
  obtain ⟨D1, D2, D3, D4⟩ := H.spl hb 10 (Nat.le_refl _)
  have H2 := D1.bad hb (fun g hg => D4 g hg)
  refine ⟨_, rfl, fun p hp => ?_, ?_, ?_, ?_, fun g hg hgi => ?_, fun q => ?_⟩
  · rw [← D2, tbS_ct]
    refine sumN_congr 10 (fun f hf => ?_)
    congr 1
    have h := (hp f hf).trans (H.spl0 hb hf h3)
    cases hpf : p f with
    | true => exact decide_eq_true (h.mp hpf)
    | false => exact decide_eq_false (fun c => by rw [h.mpr c] at hpf; cases hpf)
  · rw [← H2.cnt, ← H.cnt]
    have hk := H.kind hb
    have h4 := sumN_one (g := fun a => Bi (decide (K a = 3))) (g2 := fun a => Bi (decide (rs K b 3 a = 3))) (b0 := b) (x := 1) (fun a ha => by
      show Bi (decide (rs K b 3 a = 3)) = Bi (decide (K a = 3))
      rw [rs_ne ha]) (by
      show Bi (decide (rs K b 3 b = 3)) = Bi (decide (K b = 3)) + 1
      rw [rs_eq, decide_eq_false (p := K b = 3) (by omega)]
      rfl) 24
    rw [if_pos hb] at h4
    exact h4
  · rw [rs_ne (by omega)]
    exact D3 0 (by decide)
  · exact H.exI H2 (fun g _ => Iff.rfl)
  · have hex := H.exI H2 (fun g _ => Iff.rfl) g hg
    obtain ⟨-, -, -, -, -, p5, -⟩ := H.pf hg hgi
    obtain ⟨-, -, -, -, -, t5, -⟩ := H2.pf hg (by rw [hex]; exact hgi)
    rw [t5, p5, tbS_at]
    have h := H.spl0 hb hg h3
    refine ⟨fun c => if_pos ⟨hg, h.mp c⟩, fun c => if_neg (fun d => c (h.mpr d.2))⟩
  · rcases (wkN_pos (c := wkB (rs (spN r (b : Int) 10) (3 + b) 3)) 24).2 with e | ⟨a, ha, e, hpos⟩
    · omega
    · have e2 : a = b := by omega
      subst e2
      have h0 : wkB (rs (spN r (a : Int) 10) (3 + a) 3) a = 0 := by
        have h5 : ∀ n, sumN (fun f => Bi (wkT (rs (spN r (a : Int) 10) (3 + a) 3) a f)) n = 0 := by
          intro n
          induction n with
          | zero => rfl
          | succ n ih =>
            show sumN _ n + Bi (wkT (rs (spN r (a : Int) 10) (3 + a) 3) a n) = 0
            rw [ih]
            unfold wkT
            rw [rs_eq, decide_eq_false (p := (3 : Int) ≠ 3) (fun q => q rfl)]
            rfl
        exact h5 10
      omega
end P30B
