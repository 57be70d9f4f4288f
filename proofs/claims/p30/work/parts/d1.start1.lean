/-! the law's start: where the objects lie once the law has made them; what the words say of the machine -/
def TL (T : Ty) : Ty := A7 (newT T 0 12 0)
theorem tl_0 {T : Ty} : TL T 0 = (12, 0, lk0) := Prod.ext rfl (Prod.ext rfl (funext fun q => by rcases q with _ | _ | _ | _ | _ | _ | _ | _ | _ | _ | _ | _ | _ | _ | q <;> rfl))
theorem tl_1 {T : Ty} : TL T 1 = (5, 0, lkD 1) := rfl
theorem tl_2 {T : Ty} : TL T 2 = (1, 24, lkN) := rfl
theorem tl_3 {T : Ty} : TL T 3 = (1, 24, lkN) := rfl
theorem tl_4 {T : Ty} : TL T 4 = (1, 24, lkN) := rfl
theorem tl_5 {T : Ty} : TL T 5 = (1, 10, lkN) := rfl
theorem tl_6 {T : Ty} : TL T 6 = (1, 10, lkN) := rfl
theorem tl_7 {T : Ty} : TL T 7 = (1, 10, lkN) := rfl
theorem tl_8 {T : Ty} : TL T 8 = (1, 10, lkN) := rfl
theorem tl_9 {T : Ty} : TL T 9 = (1, 10, lkN) := rfl
theorem tl_10 {T : Ty} : TL T 10 = (7, 0, lk10) := Prod.ext rfl (Prod.ext rfl (funext fun q => by rcases q with _ | _ | _ | _ | _ | _ | _ | _ | _ | _ | _ | _ | _ | _ | q <;> rfl))
theorem tl_11 {T : Ty} : TL T 11 = (4, 6, lkN) := rfl
theorem tl_12 {T : Ty} : TL T 12 = (5, 0, lkD 12) := rfl
theorem tl_13 {T : Ty} : TL T 13 = (1, 24, lkN) := rfl
theorem tl_14 {T : Ty} : TL T 14 = (1, 24, lkN) := rfl
theorem tl_15 {T : Ty} : TL T 15 = (1, 24, lkN) := rfl
theorem tl_16 {T : Ty} : TL T 16 = (1, 10, lkN) := rfl
theorem tl_17 {T : Ty} : TL T 17 = (1, 10, lkN) := rfl
theorem tl_18 {T : Ty} : TL T 18 = (1, 10, lkN) := rfl
theorem tl_19 {T : Ty} : TL T 19 = (1, 10, lkN) := rfl
theorem tl_20 {T : Ty} : TL T 20 = (1, 10, lkN) := rfl
theorem tl_21 {T : Ty} : TL T 21 = (5, 0, lkD 21) := rfl
theorem tl_22 {T : Ty} : TL T 22 = (1, 24, lkN) := rfl
theorem tl_23 {T : Ty} : TL T 23 = (1, 24, lkN) := rfl
theorem tl_24 {T : Ty} : TL T 24 = (1, 24, lkN) := rfl
theorem tl_25 {T : Ty} : TL T 25 = (1, 10, lkN) := rfl
theorem tl_26 {T : Ty} : TL T 26 = (1, 10, lkN) := rfl
theorem tl_27 {T : Ty} : TL T 27 = (1, 10, lkN) := rfl
theorem tl_28 {T : Ty} : TL T 28 = (1, 10, lkN) := rfl
theorem tl_29 {T : Ty} : TL T 29 = (1, 10, lkN) := rfl
theorem tl_30 {T : Ty} : TL T 30 = (5, 0, lkD 30) := rfl
theorem tl_31 {T : Ty} : TL T 31 = (1, 24, lkN) := rfl
theorem tl_32 {T : Ty} : TL T 32 = (1, 24, lkN) := rfl
theorem tl_33 {T : Ty} : TL T 33 = (1, 24, lkN) := rfl
theorem tl_34 {T : Ty} : TL T 34 = (1, 10, lkN) := rfl
theorem tl_35 {T : Ty} : TL T 35 = (1, 10, lkN) := rfl
theorem tl_36 {T : Ty} : TL T 36 = (1, 10, lkN) := rfl
theorem tl_37 {T : Ty} : TL T 37 = (1, 10, lkN) := rfl
theorem tl_38 {T : Ty} : TL T 38 = (1, 10, lkN) := rfl
theorem tl_39 {T : Ty} : TL T 39 = (5, 0, lkD 39) := rfl
theorem tl_40 {T : Ty} : TL T 40 = (1, 24, lkN) := rfl
theorem tl_41 {T : Ty} : TL T 41 = (1, 24, lkN) := rfl
theorem tl_42 {T : Ty} : TL T 42 = (1, 24, lkN) := rfl
theorem tl_43 {T : Ty} : TL T 43 = (1, 10, lkN) := rfl
theorem tl_44 {T : Ty} : TL T 44 = (1, 10, lkN) := rfl
theorem tl_45 {T : Ty} : TL T 45 = (1, 10, lkN) := rfl
theorem tl_46 {T : Ty} : TL T 46 = (1, 10, lkN) := rfl
theorem tl_47 {T : Ty} : TL T 47 = (1, 10, lkN) := rfl
theorem tl_48 {T : Ty} : TL T 48 = (5, 0, lkD 48) := rfl
theorem tl_49 {T : Ty} : TL T 49 = (1, 24, lkN) := rfl
theorem tl_50 {T : Ty} : TL T 50 = (1, 24, lkN) := rfl
theorem tl_51 {T : Ty} : TL T 51 = (1, 24, lkN) := rfl
theorem tl_52 {T : Ty} : TL T 52 = (1, 10, lkN) := rfl
theorem tl_53 {T : Ty} : TL T 53 = (1, 10, lkN) := rfl
theorem tl_54 {T : Ty} : TL T 54 = (1, 10, lkN) := rfl
theorem tl_55 {T : Ty} : TL T 55 = (1, 10, lkN) := rfl
theorem tl_56 {T : Ty} : TL T 56 = (1, 10, lkN) := rfl
theorem tl_57 {T : Ty} : TL T 57 = (5, 0, lkD 57) := rfl
theorem tl_58 {T : Ty} : TL T 58 = (1, 24, lkN) := rfl
theorem tl_59 {T : Ty} : TL T 59 = (1, 24, lkN) := rfl
theorem tl_60 {T : Ty} : TL T 60 = (1, 24, lkN) := rfl
theorem tl_61 {T : Ty} : TL T 61 = (1, 10, lkN) := rfl
theorem tl_62 {T : Ty} : TL T 62 = (1, 10, lkN) := rfl
theorem tl_63 {T : Ty} : TL T 63 = (1, 10, lkN) := rfl
theorem tl_64 {T : Ty} : TL T 64 = (1, 10, lkN) := rfl
theorem tl_65 {T : Ty} : TL T 65 = (1, 10, lkN) := rfl
theorem tl_66 {T : Ty} : TL T 66 = (4, 2, lkN) := rfl
theorem tl_67 {T : Ty} : TL T 67 = (11, 0, lk67) := Prod.ext rfl (Prod.ext rfl (funext fun q => by rcases q with _ | _ | _ | _ | _ | _ | _ | _ | _ | _ | _ | _ | _ | _ | q <;> rfl))
theorem tl_68 {T : Ty} : TL T 68 = (1, 60, lkN) := rfl
theorem tl_69 {T : Ty} : TL T 69 = (8, 0, lk69) := Prod.ext rfl (Prod.ext rfl (funext fun q => by rcases q with _ | _ | _ | _ | _ | _ | _ | _ | _ | _ | _ | _ | _ | _ | q <;> rfl))
theorem tl_70 {T : Ty} : TL T 70 = (9, 0, lk70) := Prod.ext rfl (Prod.ext rfl (funext fun q => by rcases q with _ | _ | _ | _ | _ | _ | _ | _ | _ | _ | _ | _ | _ | _ | q <;> rfl))
theorem tl_71 {T : Ty} : TL T 71 = (10, 0, lk71) := Prod.ext rfl (Prod.ext rfl (funext fun q => by rcases q with _ | _ | _ | _ | _ | _ | _ | _ | _ | _ | _ | _ | _ | _ | q <;> rfl))
theorem tl_72 {T : Ty} : TL T 72 = (1, 10, lkN) := rfl
theorem tl_73 {T : Ty} : TL T 73 = (1, 10, lkN) := rfl
theorem tl_74 {T : Ty} : TL T 74 = (1, 10, lkN) := rfl
theorem tl_75 {T : Ty} : TL T 75 = (1, 10, lkN) := rfl
theorem tl_76 {T : Ty} : TL T 76 = (1, 24, lkN) := rfl
theorem tl_77 {T : Ty} : TL T 77 = (6, 0, lk77) := Prod.ext rfl (Prod.ext rfl (funext fun q => by rcases q with _ | _ | _ | _ | _ | _ | _ | _ | _ | _ | _ | _ | _ | _ | q <;> rfl))
theorem tl_78 {T : Ty} : TL T 78 = (10, 0, lk78) := Prod.ext rfl (Prod.ext rfl (funext fun q => by rcases q with _ | _ | _ | _ | _ | _ | _ | _ | _ | _ | _ | _ | _ | _ | q <;> rfl))
theorem tl_79 {T : Ty} : TL T 79 = (1, 10, lkN) := rfl
theorem tl_80 {T : Ty} : TL T 80 = (1, 10, lkN) := rfl
theorem tl_81 {T : Ty} : TL T 81 = (1, 10, lkN) := rfl
theorem tl_82 {T : Ty} : TL T 82 = (1, 1024, lkN) := rfl
theorem tl_83 {T : Ty} : TL T 83 = (1, 1024, lkN) := rfl
theorem TL_TT {T : Ty} : TT (TL T) := fun i t h => match i, h with
  | 0, h => tl_0.trans (Option.some.inj h)
  | 1, h => tl_1.trans (Option.some.inj h)
  | 2, h => tl_2.trans (Option.some.inj h)
  | 3, h => tl_3.trans (Option.some.inj h)
  | 4, h => tl_4.trans (Option.some.inj h)
  | 5, h => tl_5.trans (Option.some.inj h)
  | 6, h => tl_6.trans (Option.some.inj h)
  | 7, h => tl_7.trans (Option.some.inj h)
  | 8, h => tl_8.trans (Option.some.inj h)
  | 9, h => tl_9.trans (Option.some.inj h)
  | 10, h => tl_10.trans (Option.some.inj h)
  | 11, h => tl_11.trans (Option.some.inj h)
  | 12, h => tl_12.trans (Option.some.inj h)
  | 13, h => tl_13.trans (Option.some.inj h)
  | 14, h => tl_14.trans (Option.some.inj h)
  | 15, h => tl_15.trans (Option.some.inj h)
  | 16, h => tl_16.trans (Option.some.inj h)
  | 17, h => tl_17.trans (Option.some.inj h)
  | 18, h => tl_18.trans (Option.some.inj h)
  | 19, h => tl_19.trans (Option.some.inj h)
  | 20, h => tl_20.trans (Option.some.inj h)
  | 21, h => tl_21.trans (Option.some.inj h)
  | 22, h => tl_22.trans (Option.some.inj h)
  | 23, h => tl_23.trans (Option.some.inj h)
  | 24, h => tl_24.trans (Option.some.inj h)
  | 25, h => tl_25.trans (Option.some.inj h)
  | 26, h => tl_26.trans (Option.some.inj h)
  | 27, h => tl_27.trans (Option.some.inj h)
  | 28, h => tl_28.trans (Option.some.inj h)
  | 29, h => tl_29.trans (Option.some.inj h)
  | 30, h => tl_30.trans (Option.some.inj h)
  | 31, h => tl_31.trans (Option.some.inj h)
  | 32, h => tl_32.trans (Option.some.inj h)
  | 33, h => tl_33.trans (Option.some.inj h)
  | 34, h => tl_34.trans (Option.some.inj h)
  | 35, h => tl_35.trans (Option.some.inj h)
  | 36, h => tl_36.trans (Option.some.inj h)
  | 37, h => tl_37.trans (Option.some.inj h)
  | 38, h => tl_38.trans (Option.some.inj h)
  | 39, h => tl_39.trans (Option.some.inj h)
  | 40, h => tl_40.trans (Option.some.inj h)
  | 41, h => tl_41.trans (Option.some.inj h)
  | 42, h => tl_42.trans (Option.some.inj h)
  | 43, h => tl_43.trans (Option.some.inj h)
  | 44, h => tl_44.trans (Option.some.inj h)
  | 45, h => tl_45.trans (Option.some.inj h)
  | 46, h => tl_46.trans (Option.some.inj h)
  | 47, h => tl_47.trans (Option.some.inj h)
  | 48, h => tl_48.trans (Option.some.inj h)
  | 49, h => tl_49.trans (Option.some.inj h)
  | 50, h => tl_50.trans (Option.some.inj h)
  | 51, h => tl_51.trans (Option.some.inj h)
  | 52, h => tl_52.trans (Option.some.inj h)
  | 53, h => tl_53.trans (Option.some.inj h)
  | 54, h => tl_54.trans (Option.some.inj h)
  | 55, h => tl_55.trans (Option.some.inj h)
  | 56, h => tl_56.trans (Option.some.inj h)
  | 57, h => tl_57.trans (Option.some.inj h)
  | 58, h => tl_58.trans (Option.some.inj h)
  | 59, h => tl_59.trans (Option.some.inj h)
  | 60, h => tl_60.trans (Option.some.inj h)
  | 61, h => tl_61.trans (Option.some.inj h)
  | 62, h => tl_62.trans (Option.some.inj h)
  | 63, h => tl_63.trans (Option.some.inj h)
  | 64, h => tl_64.trans (Option.some.inj h)
  | 65, h => tl_65.trans (Option.some.inj h)
  | 66, h => tl_66.trans (Option.some.inj h)
  | 67, h => tl_67.trans (Option.some.inj h)
  | 68, h => tl_68.trans (Option.some.inj h)
  | 69, h => tl_69.trans (Option.some.inj h)
  | 70, h => tl_70.trans (Option.some.inj h)
  | 71, h => tl_71.trans (Option.some.inj h)
  | 72, h => tl_72.trans (Option.some.inj h)
  | 73, h => tl_73.trans (Option.some.inj h)
  | 74, h => tl_74.trans (Option.some.inj h)
  | 75, h => tl_75.trans (Option.some.inj h)
  | 76, h => tl_76.trans (Option.some.inj h)
  | 77, h => tl_77.trans (Option.some.inj h)
  | 78, h => tl_78.trans (Option.some.inj h)
  | 79, h => tl_79.trans (Option.some.inj h)
  | 80, h => tl_80.trans (Option.some.inj h)
  | 81, h => tl_81.trans (Option.some.inj h)
  | 82, h => tl_82.trans (Option.some.inj h)
  | 83, h => tl_83.trans (Option.some.inj h)
  | n + 84, h => absurd (List.getElem?_eq_some_iff.mp h).1 (by show ¬ n + 84 < 84; omega)
theorem kk_start {args : Array Value} {s : State} (hts : ∀ w ∈ lw_tbl, w.before args s = true) : ∃ δ : DL, KK δ s := by
  obtain ⟨c0, i0, k0⟩ := known_start hts cf_0 (by decide +kernel)
  obtain ⟨c1, i1, k1⟩ := known_start hts cf_1 (by decide +kernel)
  obtain ⟨c2, i2, k2⟩ := known_start hts cf_2 (by decide +kernel)
  obtain ⟨c3, i3, k3⟩ := known_start hts cf_3 (by decide +kernel)
  obtain ⟨c4, i4, k4⟩ := known_start hts cf_4 (by decide +kernel)
  obtain ⟨c5, i5, k5⟩ := known_start hts cf_5 (by decide +kernel)
  obtain ⟨c6, i6, k6⟩ := known_start hts cf_6 (by decide +kernel)
  obtain ⟨c7, i7, k7⟩ := known_start hts cf_7 (by decide +kernel)
  obtain ⟨aI, aI1, aI2⟩ := arr_start (hts (Cond.arrayClass .int) (by decide +kernel))
  obtain ⟨comp, aR, k, r1, -, r2, r3, r4⟩ := Cond.arrayOver_spec (hts (Cond.arrayOver (.object RX0)) (by decide +kernel))
  refine ⟨((fun c => match c with | 0 => c0 | 1 => c1 | 2 => c2 | 3 => c3 | 4 => c4 | 5 => c5 | 6 => c6 | _ => c7, fun c => match c with | 0 => i0 | 1 => i1 | 2 => i2 | 3 => i3 | 4 => i4 | 5 => i5 | 6 => i6 | _ => i7), aI, aI, aI, aR), fun c q hq => ?_, fun c q hq => ?_⟩
  · match c, hq with
    | 0, hq => rw [← Option.some.inj hq]; exact k0
    | 1, hq => rw [← Option.some.inj hq]; exact k1
    | 2, hq => rw [← Option.some.inj hq]; exact k2
    | 3, hq => rw [← Option.some.inj hq]; exact k3
    | 4, hq => rw [← Option.some.inj hq]; exact k4
    | 5, hq => rw [← Option.some.inj hq]; exact k5
    | 6, hq => rw [← Option.some.inj hq]; exact k6
    | 7, hq => rw [← Option.some.inj hq]; exact k7
    | n + 8, hq => cases hq
  · match c, hq with
    | 0, hq => rw [← Option.some.inj hq]; exact ⟨aI1, aI2⟩
    | 1, hq => rw [← Option.some.inj hq]; exact ⟨aI1, aI2⟩
    | 2, hq => rw [← Option.some.inj hq]; exact ⟨aI1, aI2⟩
    | 3, hq =>
      rw [← Option.some.inj hq]
      exact ⟨fun n z => ⟨fun k hk => (by cases hk), k, r2, comp, r3⟩, k, comp, r2, r3, r1, r4⟩
    | n + 4, hq => cases hq
theorem strs_in : ∀ q ∈ strs, Cond.stringRef RX7 q.1 q.2 ∈ lw_tbl := by decide +kernel
theorem ex_start {args : Array Value} {s : State} {δ : DL} (hts : ∀ w ∈ lw_tbl, w.before args s = true) (hK : KK δ s) (hgv : (Jvm.Cond.and given_1 narrow_1).before args s = true) : EX s.heap.size s s.heap := by
  have hfl := flat_of_before _ hgv
  have hA : ∀ a : Nat, a < s.heap.size → ¬ AB s.heap.size a := fun a h q => Nat.lt_irrefl _ (Nat.lt_of_lt_of_le h q)
  refine ⟨vx_Zqof (hts _ (by decide +kernel)) (hts _ (by decide +kernel)) (hfl _ (by decide +kernel)) hA, vx_Zqof (hts _ (by decide +kernel)) (hts _ (by decide +kernel)) (hfl _ (by decide +kernel)) hA, fun q hq => ?_, fun w hw => ?_, fun q hq => absurd hq List.not_mem_nil, va_AO.of (hts _ (by decide +kernel))⟩
  · have h7 : s.vm.findClass RX7 = some (δ.1.1 7) := (hK.1 7 _ rfl).2.1
    have hw := hts _ (strs_in q hq)
    obtain ⟨k, cf, i, a, -, -, -, -, -, h9⟩ := Cond.stringRef_spec h7 hw
    exact ⟨a, vk_R.of hw h9⟩
  · have h1 := (List.mem_filter.mp hw).2
    refine va_Nw.of ?_ (hts w (List.mem_filter.mp hw).1)
    unfold wk at h1
    split at h1 <;> first | rfl | cases h1
