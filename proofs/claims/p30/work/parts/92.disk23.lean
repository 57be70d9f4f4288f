theorem c_X7_pack {N : Nat} {T : Ty} {r P : Nat → Int} {c : Int} {s : Nat} {v : Ct} (hT : TT T) (hV : DV v 1 r c) (hHV : HVr v P s c) (hc : c < 1000000) : RunsP mX7_pack 5 0 0 [vR 0] N T v N T (fun r1 v1 => r1 = some (vI (pkV r)) ∧ DV v1 1 (pkRR r) (c + 1) ∧ HVr v1 (svP P r s) (svN s) (c + 1) ∧ fr v v1) := by
  have hpi := pkV_i r
  refine RunsP.of (by decide) (Nat.le_of_ble_eq_true rfl) fun κ C => ?_
  refine M_aload_n (pc := 0) C dX7_pack_0 rfl (by decide) ?_
  refine A_getR (pc := 1) C fl_X7_19 rfl (a := 0) (j := 10) rfl (tt_0 hT) rfl dX7_pack_1 ?_
  refine M_aload_n (pc := 4) C dX7_pack_4 rfl (by decide) ?_
  refine A_getR (pc := 5) C fl_X7_12 rfl (a := 0) (j := 1) rfl (tt_0 hT) rfl dX7_pack_5 ?_
  refine A_pV (pc := 8) C (a := 10) (c := 2) (c_X2_storeR (v := v) (r := r) (P := P) (c := c) (s := s) hT hHV hV) yw_X2_store lk_X7_59 rfl (congrArg Prod.fst (tt_10 hT)) hc_2 rfl dX7_pack_8 rfl (Nat.le_of_ble_eq_true rfl) (by decide) ⟨Nat.le_refl _, Nat.le_refl _⟩ (fun r_8 v_8 p_8 => ?_)
  obtain ⟨rfl, hH_8, hf_8⟩ := p_8
  refine M.to (pc := 11) (st2 := []) (v2 := v_8) ?_ rfl rfl rfl
  have hV_8 : DV v_8 1 r c := hV.same (fun k hk => hf_8 _ (Or.inl (by omega))) (fun _ _ => rfl)
  refine M_aload_n (pc := 11) C dX7_pack_11 rfl (by decide) ?_
  refine A_getR (pc := 12) C fl_X7_44 rfl (a := 0) (j := 70) rfl (tt_0 hT) rfl dX7_pack_12 ?_
  refine M_aload_n (pc := 15) C dX7_pack_15 rfl (by decide) ?_
  refine A_getR (pc := 16) C fl_X7_12 rfl (a := 0) (j := 1) rfl (tt_0 hT) rfl dX7_pack_16 ?_
  refine A_pV (pc := 19) C (a := 70) (c := 4) (c_X4_planR (v := v_8) (r := r) (c := c) hT hV_8) yw_X4_plan lk_X7_111 rfl (congrArg Prod.fst (tt_70 hT)) hc_4 rfl dX7_pack_19 rfl (Nat.le_of_ble_eq_true rfl) (by decide) ⟨Nat.le_refl _, Nat.le_refl _⟩ (fun r_19 v_19 p_19 => ?_)
  obtain ⟨rfl, hf_19, ho_19⟩ := p_19
  refine M.to (pc := 22) (st2 := [vI (pkV r)]) (v2 := v_19) ?_ rfl rfl rfl
  refine M_istore_n (pc := 22) C dX7_pack_22 (by decide) ?_
  refine M_iload_n (pc := 23) C dX7_pack_23 rfl ?_
  refine M_iconst (pc := 24) C dX7_pack_24 ?_
  refine M_icmp_eq (pc := 25) C (tgt := 39) (by omega) (by omega) dX7_pack_25 (by decide) (fun h_25 => ?_) (fun h_25 => ?_)
  · have hpn : pkO r = none := ho_19.elim (fun q => q.2) (fun q => absurd h_25 q.1)
    refine M_iload_n (pc := 39) C dX7_pack_39 rfl ?_
    exact M_iretP (pc := 40) C rfl dX7_pack_40 (by first | exact ⟨rfl, (by rw [pkRR_s hr3]; exact hW_36), (hH_8.same (fun a h1 h2 => (ho_36 a (Or.inr h1)).trans (hf_19 a (Or.inl (by omega))))).mono (by omega), fun a ha => (ho_36 a (Or.inr (by omega))).trans ((hf_19 a (by omega)).trans (hf_8 a (Or.inr (by omega))))⟩ | exact ⟨rfl, (by rw [pkRR_n hpn]; exact ((hV_8.same (fun k hk => hf_19 _ (Or.inl (by omega))) (fun _ _ => rfl)).mono (by omega))), (hH_8.same (fun a h1 h2 => hf_19 a (Or.inl (by omega)))).mono (by omega), fun a ha => (hf_19 a (by omega)).trans (hf_8 a (Or.inr (by omega)))⟩)
  · obtain ⟨r3, hr3, hP⟩ : ∃ r3, pkO r = some r3 ∧ PLN v_8 v_19 r r3 := ho_19.elim (fun q => absurd q.1 h_25) (fun q => q.2)
    refine M_aload_n (pc := 28) C dX7_pack_28 rfl (by decide) ?_
    refine A_getR (pc := 29) C fl_X7_44 rfl (a := 0) (j := 70) rfl (tt_0 hT) rfl dX7_pack_29 ?_
    refine M_aload_n (pc := 32) C dX7_pack_32 rfl (by decide) ?_
    refine A_getR (pc := 33) C fl_X7_12 rfl (a := 0) (j := 1) rfl (tt_0 hT) rfl dX7_pack_33 ?_
    refine A_pV (pc := 36) C (a := 70) (c := 4) (c_X4_carryOutR (v0 := v_8) (v := v_19) (r := r) (r3 := r3) (c := c) hT hV_8 hc hP (fun a ha => hf_19 a (Or.inl ha))) yw_X4_carryOut lk_X7_115 rfl (congrArg Prod.fst (tt_70 hT)) hc_4 rfl dX7_pack_36 rfl (Nat.le_of_ble_eq_true rfl) (by decide) ⟨Nat.le_refl _, Nat.le_refl _⟩ (fun r_36 v_36 p_36 => ?_)
    obtain ⟨rfl, hW_36, ho_36⟩ := p_36
    refine M.to (pc := 39) (st2 := []) (v2 := v_36) ?_ rfl rfl rfl
    refine M_iload_n (pc := 39) C dX7_pack_39 rfl ?_
    exact M_iretP (pc := 40) C rfl dX7_pack_40 (by first | exact ⟨rfl, (by rw [pkRR_s hr3]; exact hW_36), (hH_8.same (fun a h1 h2 => (ho_36 a (Or.inr h1)).trans (hf_19 a (Or.inl (by omega))))).mono (by omega), fun a ha => (ho_36 a (Or.inr (by omega))).trans ((hf_19 a (by omega)).trans (hf_8 a (Or.inr (by omega))))⟩ | exact ⟨rfl, (by rw [pkRR_n hpn]; exact ((hV_8.same (fun k hk => hf_19 _ (Or.inl (by omega))) (fun _ _ => rfl)).mono (by omega))), (hH_8.same (fun a h1 h2 => hf_19 a (Or.inl (by omega)))).mono (by omega), fun a ha => (hf_19 a (by omega)).trans (hf_8 a (Or.inr (by omega)))⟩)
