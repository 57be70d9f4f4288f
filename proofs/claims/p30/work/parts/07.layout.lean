/-! where the objects lie, once the law has made them: 0 the TailBlocks, 1 its disk, 84 the TailBlocksModel, 95 the law's long[1] -/
def lkD (d : Nat) : Nat → Int := fun k => if k < 8 then (d : Int) + 1 + k else -1
def lk0 : Nat → Int := fun k => match k with
  | 0 => 1
  | 1 => 10
  | 2 => 66
  | 3 => 67
  | 4 => 69
  | 5 => 70
  | 6 => 77
  | _ => -1
def lk10 : Nat → Int := fun k => match k with
  | 0 => 11
  | _ => -1
def lk67 : Nat → Int := fun k => match k with
  | 0 => 68
  | _ => -1
def lk69 : Nat → Int := fun k => match k with
  | _ => -1
def lk70 : Nat → Int := fun k => match k with
  | 0 => 71
  | 1 => 74
  | 2 => 75
  | 3 => 76
  | _ => -1
def lk71 : Nat → Int := fun k => match k with
  | 0 => 72
  | 1 => 73
  | _ => -1
def lk77 : Nat → Int := fun k => match k with
  | 0 => 78
  | 1 => 81
  | 2 => 82
  | 3 => 83
  | _ => -1
def lk78 : Nat → Int := fun k => match k with
  | 0 => 79
  | 1 => 80
  | _ => -1
def lkN : Nat → Int := fun _ => -1
def T0l : List (Nat × Nat × (Nat → Int)) := [(12, 0, lk0), (5, 0, lkD 1), (1, 24, lkN), (1, 24, lkN), (1, 24, lkN), (1, 10, lkN), (1, 10, lkN), (1, 10, lkN), (1, 10, lkN), (1, 10, lkN), (7, 0, lk10), (4, 6, lkN), (5, 0, lkD 12), (1, 24, lkN), (1, 24, lkN), (1, 24, lkN), (1, 10, lkN), (1, 10, lkN), (1, 10, lkN), (1, 10, lkN), (1, 10, lkN), (5, 0, lkD 21), (1, 24, lkN), (1, 24, lkN), (1, 24, lkN), (1, 10, lkN), (1, 10, lkN), (1, 10, lkN), (1, 10, lkN), (1, 10, lkN), (5, 0, lkD 30), (1, 24, lkN), (1, 24, lkN), (1, 24, lkN), (1, 10, lkN), (1, 10, lkN), (1, 10, lkN), (1, 10, lkN), (1, 10, lkN), (5, 0, lkD 39), (1, 24, lkN), (1, 24, lkN), (1, 24, lkN), (1, 10, lkN), (1, 10, lkN), (1, 10, lkN), (1, 10, lkN), (1, 10, lkN), (5, 0, lkD 48), (1, 24, lkN), (1, 24, lkN), (1, 24, lkN), (1, 10, lkN), (1, 10, lkN), (1, 10, lkN), (1, 10, lkN), (1, 10, lkN), (5, 0, lkD 57), (1, 24, lkN), (1, 24, lkN), (1, 24, lkN), (1, 10, lkN), (1, 10, lkN), (1, 10, lkN), (1, 10, lkN), (1, 10, lkN), (4, 2, lkN), (11, 0, lk67), (1, 60, lkN), (8, 0, lk69), (9, 0, lk70), (10, 0, lk71), (1, 10, lkN), (1, 10, lkN), (1, 10, lkN), (1, 10, lkN), (1, 24, lkN), (6, 0, lk77), (10, 0, lk78), (1, 10, lkN), (1, 10, lkN), (1, 10, lkN), (1, 1024, lkN), (1, 1024, lkN)]
def TT (T : Ty) : Prop := ∀ (i : Nat) (t : Nat × Nat × (Nat → Int)), T0l[i]? = some t → T i = t
theorem tt_0 {T : Ty} (h : TT T) : T 0 = (12, 0, lk0) := h 0 _ rfl
theorem tt_1 {T : Ty} (h : TT T) : T 1 = (5, 0, lkD 1) := h 1 _ rfl
theorem tt_2 {T : Ty} (h : TT T) : T 2 = (1, 24, lkN) := h 2 _ rfl
theorem tt_3 {T : Ty} (h : TT T) : T 3 = (1, 24, lkN) := h 3 _ rfl
theorem tt_4 {T : Ty} (h : TT T) : T 4 = (1, 24, lkN) := h 4 _ rfl
theorem tt_5 {T : Ty} (h : TT T) : T 5 = (1, 10, lkN) := h 5 _ rfl
theorem tt_6 {T : Ty} (h : TT T) : T 6 = (1, 10, lkN) := h 6 _ rfl
theorem tt_7 {T : Ty} (h : TT T) : T 7 = (1, 10, lkN) := h 7 _ rfl
theorem tt_8 {T : Ty} (h : TT T) : T 8 = (1, 10, lkN) := h 8 _ rfl
theorem tt_9 {T : Ty} (h : TT T) : T 9 = (1, 10, lkN) := h 9 _ rfl
theorem tt_10 {T : Ty} (h : TT T) : T 10 = (7, 0, lk10) := h 10 _ rfl
theorem tt_11 {T : Ty} (h : TT T) : T 11 = (4, 6, lkN) := h 11 _ rfl
theorem tt_12 {T : Ty} (h : TT T) : T 12 = (5, 0, lkD 12) := h 12 _ rfl
theorem tt_13 {T : Ty} (h : TT T) : T 13 = (1, 24, lkN) := h 13 _ rfl
theorem tt_14 {T : Ty} (h : TT T) : T 14 = (1, 24, lkN) := h 14 _ rfl
theorem tt_15 {T : Ty} (h : TT T) : T 15 = (1, 24, lkN) := h 15 _ rfl
theorem tt_16 {T : Ty} (h : TT T) : T 16 = (1, 10, lkN) := h 16 _ rfl
theorem tt_17 {T : Ty} (h : TT T) : T 17 = (1, 10, lkN) := h 17 _ rfl
theorem tt_18 {T : Ty} (h : TT T) : T 18 = (1, 10, lkN) := h 18 _ rfl
theorem tt_19 {T : Ty} (h : TT T) : T 19 = (1, 10, lkN) := h 19 _ rfl
theorem tt_20 {T : Ty} (h : TT T) : T 20 = (1, 10, lkN) := h 20 _ rfl
theorem tt_21 {T : Ty} (h : TT T) : T 21 = (5, 0, lkD 21) := h 21 _ rfl
theorem tt_22 {T : Ty} (h : TT T) : T 22 = (1, 24, lkN) := h 22 _ rfl
theorem tt_23 {T : Ty} (h : TT T) : T 23 = (1, 24, lkN) := h 23 _ rfl
theorem tt_24 {T : Ty} (h : TT T) : T 24 = (1, 24, lkN) := h 24 _ rfl
theorem tt_25 {T : Ty} (h : TT T) : T 25 = (1, 10, lkN) := h 25 _ rfl
theorem tt_26 {T : Ty} (h : TT T) : T 26 = (1, 10, lkN) := h 26 _ rfl
theorem tt_27 {T : Ty} (h : TT T) : T 27 = (1, 10, lkN) := h 27 _ rfl
theorem tt_28 {T : Ty} (h : TT T) : T 28 = (1, 10, lkN) := h 28 _ rfl
theorem tt_29 {T : Ty} (h : TT T) : T 29 = (1, 10, lkN) := h 29 _ rfl
theorem tt_30 {T : Ty} (h : TT T) : T 30 = (5, 0, lkD 30) := h 30 _ rfl
theorem tt_31 {T : Ty} (h : TT T) : T 31 = (1, 24, lkN) := h 31 _ rfl
theorem tt_32 {T : Ty} (h : TT T) : T 32 = (1, 24, lkN) := h 32 _ rfl
theorem tt_33 {T : Ty} (h : TT T) : T 33 = (1, 24, lkN) := h 33 _ rfl
theorem tt_34 {T : Ty} (h : TT T) : T 34 = (1, 10, lkN) := h 34 _ rfl
theorem tt_35 {T : Ty} (h : TT T) : T 35 = (1, 10, lkN) := h 35 _ rfl
theorem tt_36 {T : Ty} (h : TT T) : T 36 = (1, 10, lkN) := h 36 _ rfl
theorem tt_37 {T : Ty} (h : TT T) : T 37 = (1, 10, lkN) := h 37 _ rfl
theorem tt_38 {T : Ty} (h : TT T) : T 38 = (1, 10, lkN) := h 38 _ rfl
theorem tt_39 {T : Ty} (h : TT T) : T 39 = (5, 0, lkD 39) := h 39 _ rfl
theorem tt_40 {T : Ty} (h : TT T) : T 40 = (1, 24, lkN) := h 40 _ rfl
theorem tt_41 {T : Ty} (h : TT T) : T 41 = (1, 24, lkN) := h 41 _ rfl
theorem tt_42 {T : Ty} (h : TT T) : T 42 = (1, 24, lkN) := h 42 _ rfl
theorem tt_43 {T : Ty} (h : TT T) : T 43 = (1, 10, lkN) := h 43 _ rfl
theorem tt_44 {T : Ty} (h : TT T) : T 44 = (1, 10, lkN) := h 44 _ rfl
theorem tt_45 {T : Ty} (h : TT T) : T 45 = (1, 10, lkN) := h 45 _ rfl
theorem tt_46 {T : Ty} (h : TT T) : T 46 = (1, 10, lkN) := h 46 _ rfl
theorem tt_47 {T : Ty} (h : TT T) : T 47 = (1, 10, lkN) := h 47 _ rfl
theorem tt_48 {T : Ty} (h : TT T) : T 48 = (5, 0, lkD 48) := h 48 _ rfl
theorem tt_49 {T : Ty} (h : TT T) : T 49 = (1, 24, lkN) := h 49 _ rfl
theorem tt_50 {T : Ty} (h : TT T) : T 50 = (1, 24, lkN) := h 50 _ rfl
theorem tt_51 {T : Ty} (h : TT T) : T 51 = (1, 24, lkN) := h 51 _ rfl
theorem tt_52 {T : Ty} (h : TT T) : T 52 = (1, 10, lkN) := h 52 _ rfl
theorem tt_53 {T : Ty} (h : TT T) : T 53 = (1, 10, lkN) := h 53 _ rfl
theorem tt_54 {T : Ty} (h : TT T) : T 54 = (1, 10, lkN) := h 54 _ rfl
theorem tt_55 {T : Ty} (h : TT T) : T 55 = (1, 10, lkN) := h 55 _ rfl
theorem tt_56 {T : Ty} (h : TT T) : T 56 = (1, 10, lkN) := h 56 _ rfl
theorem tt_57 {T : Ty} (h : TT T) : T 57 = (5, 0, lkD 57) := h 57 _ rfl
theorem tt_58 {T : Ty} (h : TT T) : T 58 = (1, 24, lkN) := h 58 _ rfl
theorem tt_59 {T : Ty} (h : TT T) : T 59 = (1, 24, lkN) := h 59 _ rfl
theorem tt_60 {T : Ty} (h : TT T) : T 60 = (1, 24, lkN) := h 60 _ rfl
theorem tt_61 {T : Ty} (h : TT T) : T 61 = (1, 10, lkN) := h 61 _ rfl
theorem tt_62 {T : Ty} (h : TT T) : T 62 = (1, 10, lkN) := h 62 _ rfl
theorem tt_63 {T : Ty} (h : TT T) : T 63 = (1, 10, lkN) := h 63 _ rfl
theorem tt_64 {T : Ty} (h : TT T) : T 64 = (1, 10, lkN) := h 64 _ rfl
theorem tt_65 {T : Ty} (h : TT T) : T 65 = (1, 10, lkN) := h 65 _ rfl
theorem tt_66 {T : Ty} (h : TT T) : T 66 = (4, 2, lkN) := h 66 _ rfl
theorem tt_67 {T : Ty} (h : TT T) : T 67 = (11, 0, lk67) := h 67 _ rfl
theorem tt_68 {T : Ty} (h : TT T) : T 68 = (1, 60, lkN) := h 68 _ rfl
theorem tt_69 {T : Ty} (h : TT T) : T 69 = (8, 0, lk69) := h 69 _ rfl
theorem tt_70 {T : Ty} (h : TT T) : T 70 = (9, 0, lk70) := h 70 _ rfl
theorem tt_71 {T : Ty} (h : TT T) : T 71 = (10, 0, lk71) := h 71 _ rfl
theorem tt_72 {T : Ty} (h : TT T) : T 72 = (1, 10, lkN) := h 72 _ rfl
theorem tt_73 {T : Ty} (h : TT T) : T 73 = (1, 10, lkN) := h 73 _ rfl
theorem tt_74 {T : Ty} (h : TT T) : T 74 = (1, 10, lkN) := h 74 _ rfl
theorem tt_75 {T : Ty} (h : TT T) : T 75 = (1, 10, lkN) := h 75 _ rfl
theorem tt_76 {T : Ty} (h : TT T) : T 76 = (1, 24, lkN) := h 76 _ rfl
theorem tt_77 {T : Ty} (h : TT T) : T 77 = (6, 0, lk77) := h 77 _ rfl
theorem tt_78 {T : Ty} (h : TT T) : T 78 = (10, 0, lk78) := h 78 _ rfl
theorem tt_79 {T : Ty} (h : TT T) : T 79 = (1, 10, lkN) := h 79 _ rfl
theorem tt_80 {T : Ty} (h : TT T) : T 80 = (1, 10, lkN) := h 80 _ rfl
theorem tt_81 {T : Ty} (h : TT T) : T 81 = (1, 10, lkN) := h 81 _ rfl
theorem tt_82 {T : Ty} (h : TT T) : T 82 = (1, 1024, lkN) := h 82 _ rfl
theorem tt_83 {T : Ty} (h : TT T) : T 83 = (1, 1024, lkN) := h 83 _ rfl
theorem hc_0 : ∃ Tt Nn, vwCl[0]? = some (RX0, Tt, Nn) := ⟨_, _, rfl⟩
theorem hc_1 : ∃ Tt Nn, vwCl[1]? = some (RX1, Tt, Nn) := ⟨_, _, rfl⟩
theorem hc_2 : ∃ Tt Nn, vwCl[2]? = some (RX2, Tt, Nn) := ⟨_, _, rfl⟩
theorem hc_3 : ∃ Tt Nn, vwCl[3]? = some (RX3, Tt, Nn) := ⟨_, _, rfl⟩
theorem hc_4 : ∃ Tt Nn, vwCl[4]? = some (RX4, Tt, Nn) := ⟨_, _, rfl⟩
theorem hc_5 : ∃ Tt Nn, vwCl[5]? = some (RX5, Tt, Nn) := ⟨_, _, rfl⟩
theorem hc_6 : ∃ Tt Nn, vwCl[6]? = some (RX6, Tt, Nn) := ⟨_, _, rfl⟩
theorem hc_7 : ∃ Tt Nn, vwCl[7]? = some (RX7, Tt, Nn) := ⟨_, _, rfl⟩
theorem loop_le {P : Nat → Prop} (m : Nat) (h : ∀ i, i ≤ m → (i < m → P (i + 1)) → P i) : P 0 := by
  refine loop_up m (h m (Nat.le_refl m) (fun q => absurd q (Nat.lt_irrefl m))) (fun i hi k => h i (by omega) (fun _ => k))
theorem loop_le_from {P : Nat → Prop} (a m : Nat) (ha : a ≤ m) (h : ∀ i, a ≤ i → i ≤ m → (i < m → P (i + 1)) → P i) : P a := by
  refine loop_from a m ha (h m ha (Nat.le_refl m) (fun q => absurd q (Nat.lt_irrefl m))) (fun i h1 hi k => h i h1 (by omega) (fun _ => k))
/-- a loop with a measure -/
theorem loop_ms {S : Type} {P : S → Prop} (f : S → Nat) (h : ∀ s, (∀ t, f t < f s → P t) → P s) (s : S) : P s := by
  have k : ∀ n s, f s < n → P s := by
    intro n
    induction n with
    | zero => intro s hs; exact absurd hs (Nat.not_lt_zero _)
    | succ n ih => intro s hs; exact h s (fun t ht => ih t (by omega))
  exact k (f s + 1) s (Nat.lt_succ_self _)
