/-! the law's start: what the words say of the machine -/
theorem arr_start {args : Array Value} {s : State} {ty : FieldType} (h : (Cond.arrayClass ty).before args s = true) : ∃ cA, ArrOfT s cA ty ∧ s.vm.findClass ("[" ++ ty.toString) = some cA := by
  obtain ⟨c, k, comp, h1, h2, h3⟩ := Cond.arrayClass_spec h
  refine ⟨c, fun n z => ⟨fun k hk => ?_, k, h2, comp, h3⟩, h1⟩
  cases hk
theorem known_start {args : Array Value} {s : State} (hts : ∀ w ∈ lw_tbl, w.before args s = true) {c Nn : Nat} {C : String} {Tt : u_T} (hc : CF c C Tt Nn) (hi : Cond.instantiable C Nn ∈ lw_tbl) : ∃ cC iS, u_Kn s C Tt Nn cC iS :=
  u_known (fun w hw => hts w (List.mem_filter.mp hw).1) hc.2.1 (hts _ hi)
theorem kk_start {args : Array Value} {s : State} (hts : ∀ w ∈ lw_tbl, w.before args s = true) : ∃ δ : DL, KK δ s := by
  obtain ⟨c0, i0, k0⟩ := known_start hts cf_0 (by decide +kernel)
  obtain ⟨c1, i1, k1⟩ := known_start hts cf_1 (by decide +kernel)
  obtain ⟨c2, i2, k2⟩ := known_start hts cf_2 (by decide +kernel)
  obtain ⟨c3, i3, k3⟩ := known_start hts cf_3 (by decide +kernel)
  obtain ⟨c4, i4, k4⟩ := known_start hts cf_4 (by decide +kernel)
  obtain ⟨c5, i5, k5⟩ := known_start hts cf_5 (by decide +kernel)
  obtain ⟨c6, i6, k6⟩ := known_start hts cf_6 (by decide +kernel)
  obtain ⟨c7, i7, k7⟩ := known_start hts cf_7 (by decide +kernel)
  obtain ⟨c8, i8, k8⟩ := known_start hts cf_8 (by decide +kernel)
  obtain ⟨aI, aI1, aI2⟩ := arr_start (hts (Cond.arrayClass .int) (by decide +kernel))
  obtain ⟨aZ, aZ1, aZ2⟩ := arr_start (hts (Cond.arrayClass .boolean) (by decide +kernel))
  obtain ⟨aJ, aJ1, aJ2⟩ := arr_start (hts (Cond.arrayClass .long) (by decide +kernel))
  obtain ⟨comp, aR, k, r1, -, r2, r3, r4⟩ := Cond.arrayOver_spec (hts (Cond.arrayOver (.object RX0)) (by decide +kernel))
  refine ⟨((fun c => match c with | 0 => c0 | 1 => c1 | 2 => c2 | 3 => c3 | 4 => c4 | 5 => c5 | 6 => c6 | 7 => c7 | _ => c8, fun c => match c with | 0 => i0 | 1 => i1 | 2 => i2 | 3 => i3 | 4 => i4 | 5 => i5 | 6 => i6 | 7 => i7 | _ => i8), aI, aZ, aJ, aR), fun c q hq => ?_, fun c q hq => ?_⟩
  · match c, hq with
    | 0, hq => rw [← Option.some.inj hq]; exact k0
    | 1, hq => rw [← Option.some.inj hq]; exact k1
    | 2, hq => rw [← Option.some.inj hq]; exact k2
    | 3, hq => rw [← Option.some.inj hq]; exact k3
    | 4, hq => rw [← Option.some.inj hq]; exact k4
    | 5, hq => rw [← Option.some.inj hq]; exact k5
    | 6, hq => rw [← Option.some.inj hq]; exact k6
    | 7, hq => rw [← Option.some.inj hq]; exact k7
    | 8, hq => rw [← Option.some.inj hq]; exact k8
    | n + 9, hq => cases hq
  · match c, hq with
    | 0, hq => rw [← Option.some.inj hq]; exact ⟨aI1, aI2⟩
    | 1, hq => rw [← Option.some.inj hq]; exact ⟨aZ1, aZ2⟩
    | 2, hq => rw [← Option.some.inj hq]; exact ⟨aJ1, aJ2⟩
    | 3, hq =>
      rw [← Option.some.inj hq]
      exact ⟨fun n z => ⟨fun k hk => (by cases hk), k, r2, comp, r3⟩, k, comp, r2, r3, r1, r4⟩
    | n + 4, hq => cases hq
theorem strs_in : ∀ q ∈ strs, Cond.stringRef RX7 q.1 q.2 ∈ lw_tbl := by decide +kernel
theorem ncs_in : ∀ q ∈ ncs, (Cond.castable q.1 q.2).not ∈ flatC (Jvm.Cond.and given_1 narrow_1) := by decide +kernel
theorem ex_start {args : Array Value} {s : State} {δ : DL} (hts : ∀ w ∈ lw_tbl, w.before args s = true) (hK : KK δ s) (hgv : (Jvm.Cond.and given_1 narrow_1).before args s = true) : EX s.heap.size s s.heap := by
  have hfl := flat_of_before _ hgv
  have hA : ∀ a : Nat, a < s.heap.size → ¬ AB s.heap.size a := fun a h q => Nat.lt_irrefl _ (Nat.lt_of_lt_of_le h q)
  refine ⟨vx_Zqof (hts _ (by decide +kernel)) (hts _ (by decide +kernel)) (hfl _ (by decide +kernel)) hA, vx_Zqof (hts _ (by decide +kernel)) (hts _ (by decide +kernel)) (hfl _ (by decide +kernel)) hA, fun q hq => ?_, fun w hw => ?_, fun q hq => va_Nc.of (hfl _ (ncs_in q hq)), va_AO.of (hts _ (by decide +kernel))⟩
  · have h7 : s.vm.findClass RX7 = some (δ.1.1 7) := (hK.1 7 _ rfl).2.1
    have hw := hts _ (strs_in q hq)
    obtain ⟨k, cf, i, a, -, -, -, -, -, h9⟩ := Cond.stringRef_spec h7 hw
    exact ⟨a, vk_R.of hw h9⟩
  · have h1 := (List.mem_filter.mp hw).2
    refine va_Nw.of ?_ (hts w (List.mem_filter.mp hw).1)
    unfold wk at h1
    split at h1 <;> first | rfl | cases h1
theorem noTrace {l : Launch} (h : l.flags = flags0) : l.stackTraces = false := by
  unfold Launch.stackTraces
  rw [h]
  decide
