theorem arr_start {args : Array Value} {s : State} {ty : FieldType} (h : (Cond.arrayClass ty).before args s = true) : ∃ cA, ArrOfT s cA ty ∧ s.vm.findClass ("[" ++ ty.toString) = some cA := by
  obtain ⟨c, k, comp, h1, h2, h3⟩ := Cond.arrayClass_spec h
  refine ⟨c, fun n z => ⟨fun k hk => ?_, k, h2, comp, h3⟩, h1⟩
  cases hk
theorem known_start {args : Array Value} {s : State} (hts : ∀ w ∈ lw_tbl, w.before args s = true) {c Nn : Nat} {C : String} {Tt : u_T} (hc : CF c C Tt Nn) (hi : Cond.instantiable C Nn ∈ lw_tbl) : ∃ cC iS, u_Kn s C Tt Nn cC iS :=
  u_known (fun w hw => hts w (List.mem_filter.mp hw).1) hc.2.1 (hts _ hi)
theorem noTrace {l : Launch} (h : l.flags = flags0) : l.stackTraces = false := by
  unfold Launch.stackTraces
  rw [h]
  decide
