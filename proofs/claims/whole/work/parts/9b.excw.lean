/-! the words of the three throws -/
theorem TWm {ws : List Cond} (h : ws.all (fun w => decide (w ∈ tables_1) && (goodWord w || wk w)) = true) : ∀ w ∈ ws, w ∈ GW ∨ w ∈ OW := fun w hw => by
  have h1 := List.all_eq_true.mp h w hw
  obtain ⟨h2, h3⟩ := Bool.and_eq_true_iff.mp h1
  have h2 := of_decide_eq_true h2
  rcases (Bool.or_eq_true _ _).mp h3 with q | q
  · exact Or.inl (GW_in (List.mem_append_right _ h2) q)
  · exact Or.inr (List.mem_filter.mpr ⟨List.mem_append_right _ h2, q⟩)
theorem tw_ia : TW RX7 145 149 "java/lang/IllegalArgumentException" := ⟨by decide +kernel, GW_t (i := 403) (by decide +kernel) rfl, GW_t (i := 13) (by decide +kernel) rfl, TWm (by decide +kernel), List.all_eq_true.mp (show (Cond.classLink RX7 145 "java/lang/IllegalArgumentException" :: Cond.initialized "java/lang/IllegalArgumentException" :: vx_atS RX7 149 "java/lang/IllegalArgumentException" nmsX).all vx_ot = true by decide +kernel)⟩
theorem tw_ix : TW RX7 175 179 "java/lang/IndexOutOfBoundsException" := ⟨by decide +kernel, GW_t (i := 634) (by decide +kernel) rfl, GW_t (i := 15) (by decide +kernel) rfl, TWm (by decide +kernel), List.all_eq_true.mp (show (Cond.classLink RX7 175 "java/lang/IndexOutOfBoundsException" :: Cond.initialized "java/lang/IndexOutOfBoundsException" :: vx_atS RX7 179 "java/lang/IndexOutOfBoundsException" nmsX).all vx_ot = true by decide +kernel)⟩
theorem tw_is : TW RX7 87 91 "java/lang/IllegalStateException" := ⟨by decide +kernel, GW_t (i := 690) (by decide +kernel) rfl, GW_t (i := 16) (by decide +kernel) rfl, TWm (by decide +kernel), List.all_eq_true.mp (show (Cond.classLink RX7 87 "java/lang/IllegalStateException" :: Cond.initialized "java/lang/IllegalStateException" :: vx_atS RX7 91 "java/lang/IllegalStateException" nmsX).all vx_ot = true by decide +kernel)⟩
theorem ml_ca : Cond.methodLink RX7 55 ⟨"TailBlocks", "checkArgument", "(III)V"⟩ ∈ GW := GW_t (i := 400) (by decide +kernel) rfl
theorem ml_cf : Cond.methodLink RX7 67 ⟨"TailBlocks", "checkFile", "(I)V"⟩ ∈ GW := GW_t (i := 630) (by decide +kernel) rfl
theorem ml_cb : Cond.methodLink RX7 81 ⟨"TailBlocks", "checkBlock", "(I)V"⟩ ∈ GW := GW_t (i := 685) (by decide +kernel) rfl
