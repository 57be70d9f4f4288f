theorem DR.zf {K O Rk Z B S W P r : Nat → Int} (H : DR K O Rk Z B S W P r) {f : Nat} (hf : f < 10) (hfi : ro r f 0 = 1) : Z f ≠ -1 := by
  rcases (H.1 f hf).ex with ⟨-, q⟩ | ⟨q, -⟩
  · omega
  · exact q
theorem DR.sz {K O Rk Z B S W P r : Nat → Int} (H : DR K O Rk Z B S W P r) {f : Nat} (hf : f < 10) (hfi : ro r f 0 = 1) : Z f = ro r f 1 := (H.wf hf (H.zf hf hfi)).2.1.symm
theorem DR.tb {K O Rk Z B S W P r : Nat → Int} (H : DR K O Rk Z B S W P r) {f : Nat} (hf : f < 10) : Z f % 16 ≠ 0 → Z f ≠ -1 → B f ≠ -1 := fun h1 h2 => by
  rcases H.1 f hf with ⟨-, -, c, -⟩ | ⟨-, -, -, -, -, -, -, h3⟩
  · exact absurd c h2
  · rcases h3 with h3 | h3 <;> omega
/-- what count answers -/
def ctX (r : Nat → Int) (s : Nat) (w : Nat) : Int := match w with
  | 0 => filF r
  | 1 => cntK r 0
  | 2 => cntK r 1
  | 3 => cntK r 2
  | 4 => cntK r 3
  | 5 => gcF r
  | 6 => sumN (gpT r) 24
  | 7 => sumN (fun f => Bi (brB r f)) 10
  | 8 => r 0
  | 9 => r 1
  | 10 => r 2
  | _ => (s : Int)
theorem c_X7_checkArgument {N : Nat} {T : Ty} {x a b : Int} {v : Ct} (hT : TT T) (hx : i32 x) (ha : i32 a) (hb : i32 b) (h : a ≤ x ∧ x ≤ b) : Runs mX7_checkArgument 0 0 0 [vI x, vI a, vI b] N T v none N T v := by
  refine Runs.of (by decide) (Nat.le_of_ble_eq_true rfl) fun κ C => ?_
  refine M_iload_n (pc := 0) C dX7_checkArgument_0 rfl ?_
  refine M_iload_n (pc := 1) C dX7_checkArgument_1 rfl ?_
  refine M_icmp_lt (pc := 2) C (tgt := 10) (by omega) (by omega) dX7_checkArgument_2 (by decide) (fun h_2 => ?_) (fun h_2 => ?_)
  · exfalso
    omega
  · refine M_iload_n (pc := 5) C dX7_checkArgument_5 rfl ?_
    refine M_iload_n (pc := 6) C dX7_checkArgument_6 rfl ?_
    refine M_icmp_le (pc := 7) C (tgt := 21) (by omega) (by omega) dX7_checkArgument_7 (by decide) (fun h_7 => ?_) (fun h_7 => ?_)
    · exact M_vret (pc := 21) C rfl dX7_checkArgument_21 rfl rfl
    · exfalso
      omega
theorem c_X7_checkFile {N : Nat} {T : Ty} {f : Nat} {v : Ct} (hT : TT T) (hf : f < 10) (hz : v 5 f ≠ -1) : Runs mX7_checkFile 1 0 0 [vR 0, vI ((f : Nat) : Int)] N T v none N T v := by
  refine Runs.of (by decide) (Nat.le_of_ble_eq_true rfl) fun κ C => ?_
  refine M_aload_n (pc := 0) C dX7_checkFile_0 rfl (by decide) ?_
  refine A_getR (pc := 1) C fl_X7_12 rfl (a := 0) (j := 1) rfl (tt_0 hT) rfl dX7_checkFile_1 ?_
  refine M_iload_n (pc := 4) C dX7_checkFile_4 rfl ?_
  refine A_cV (pc := 5) C (x := vI (Bi (decide (v 5 f ≠ -1)))) (a := 1) (c := 0) (c_X0_exists_n hT (f := f) (by omega)) yw_X0_exists lk_X7_225 rfl (congrArg Prod.fst (tt_1 hT)) hc_0 rfl dX7_checkFile_5 rfl (Nat.le_of_ble_eq_true rfl) (by decide) ⟨Nat.le_refl _, Nat.le_refl _⟩ ?_
  refine M_rd (pc := 8) C 5 f (fun (r_5_0 : i32 (v 5 f)) => ?_)
  refine M_if_ne (pc := 8) C (tgt := 22) (Bi_i32 _) dX7_checkFile_8 (by decide) (fun h_8 => ?_) (fun h_8 => ?_)
  · have b_8 := Bid_ne0 h_8
    exact M_vret (pc := 22) C rfl dX7_checkFile_22 rfl rfl
  · have b_8 := Bid_eq0 h_8
    exact absurd hz b_8
theorem c_X7_checkBlock {N : Nat} {T : Ty} {b : Nat} {v : Ct} (hT : TT T) (hb : b < 24) : Runs mX7_checkBlock 1 0 0 [vI ((b : Nat) : Int)] N T v none N T v := by
  refine Runs.of (by decide) (Nat.le_of_ble_eq_true rfl) fun κ C => ?_
  refine M_iload_n (pc := 0) C dX7_checkBlock_0 rfl ?_
  refine A_cS (pc := 1) C (x := vI (Bi (decide (0 ≤ ((b : Nat) : Int) ∧ ((b : Nat) : Int) < 24)))) (c_X7_isBlock hT (b := ((b : Nat) : Int)) (by omega)) yw_X7_isBlock lk_X7_288 rfl dX7_checkBlock_1 rfl (Nat.le_of_ble_eq_true rfl) (by decide) ⟨Nat.le_refl _, Nat.le_refl _⟩ ?_
  refine M_if_ne (pc := 4) C (tgt := 18) (Bi_i32 _) dX7_checkBlock_4 (by decide) (fun h_4 => ?_) (fun h_4 => ?_)
  · have b_4 := Bid_ne0 h_4
    exact M_vret (pc := 18) C rfl dX7_checkBlock_18 rfl rfl
  · have b_4 := Bid_eq0 h_4
    exfalso
    omega
theorem c_X7_fileOf {N : Nat} {T : Ty} {r : Nat → Int} {c : Int} {f w : Nat} {v : Ct} (hT : TT T) (hV : DV v 1 r c) (hf : f < 10) (hfi : ro r f 0 = 1) (hw : w < 7) : Runs mX7_fileOf 2 0 0 [vR 0, vI ((f : Nat) : Int), vI ((w : Nat) : Int)] N T v (some (vI (prF r f w))) N T v := by
  obtain ⟨hH, hC⟩ := hV
  have hH : DR (v 2) (v 3) (v 4) (v 5) (v 6) (v 7) (v 8) (v 9) r := hH
  have hC : CNT (v 1) (v 9) r c := hC
  have hD := hH.DI
  have hz : v 5 f ≠ -1 := hH.zf hf hfi
  refine Runs.of (by decide) (Nat.le_of_ble_eq_true rfl) fun κ C => ?_
  refine M_aload_n (pc := 0) C dX7_fileOf_0 rfl (by decide) ?_
  refine M_iload_n (pc := 1) C dX7_fileOf_1 rfl ?_
  refine A_cVv (pc := 2) C (a := 0) (c := 7) (c_X7_checkFile hT (f := f) (by omega) hz) yw_X7_checkFile lk_X7_67 rfl (congrArg Prod.fst (tt_0 hT)) hc_7 rfl dX7_fileOf_2 rfl (Nat.le_of_ble_eq_true rfl) (by decide) ⟨Nat.le_refl _, Nat.le_refl _⟩ ?_
  refine M_iload_n (pc := 5) C dX7_fileOf_5 rfl ?_
  refine M_iconst (pc := 6) C dX7_fileOf_6 ?_
  refine M_bipush (pc := 7) C (by decide) dX7_fileOf_7 ?_
  refine A_cSv (pc := 9) C (c_X7_checkArgument hT (x := ((w : Nat) : Int)) (a := 0) (b := 6) (by omega) (by omega) (by omega) (by omega)) yw_X7_checkArgument lk_X7_55 rfl dX7_fileOf_9 rfl (Nat.le_of_ble_eq_true rfl) (by decide) ⟨Nat.le_refl _, Nat.le_refl _⟩ ?_
  refine M_aload_n (pc := 12) C dX7_fileOf_12 rfl (by decide) ?_
  refine A_getR (pc := 13) C fl_X7_12 rfl (a := 0) (j := 1) rfl (tt_0 hT) rfl dX7_fileOf_13 ?_
  refine M_iload_n (pc := 16) C dX7_fileOf_16 rfl ?_
  refine M_iload_n (pc := 17) C dX7_fileOf_17 rfl ?_
  refine A_cV (pc := 18) C (x := vI (fpN (v 5) (v 6) (v 7) (v 8) (v 9) f w)) (a := 1) (c := 0) (c_X0_fileProperty hT (f := f) (w := w) hD (by omega) hz (by omega)) yw_X0_fileProperty lk_X7_169 rfl (congrArg Prod.fst (tt_1 hT)) hc_0 rfl dX7_fileOf_18 rfl (Nat.le_of_ble_eq_true rfl) (by decide) ⟨Nat.le_refl _, Nat.le_refl _⟩ ?_
  exact M_iret (pc := 21) C rfl dX7_fileOf_21 (by rw [hH.fp hf hz hw]) rfl
theorem c_X7_place {N : Nat} {T : Ty} {r : Nat → Int} {c : Int} {f q : Nat} {v : Ct} (hT : TT T) (hV : DV v 1 r c) (hf : f < 10) (hfi : ro r f 0 = 1) (hq : (q : Int) < ro r f 1) : Runs mX7_place 3 0 0 [vR 0, vI ((f : Nat) : Int), vI ((q : Nat) : Int)] N T v (some (vI (plO r f q))) N T v := by
  obtain ⟨hH, hC⟩ := hV
  have hH : DR (v 2) (v 3) (v 4) (v 5) (v 6) (v 7) (v 8) (v 9) r := hH
  have hC : CNT (v 1) (v 9) r c := hC
  have hD := hH.DI
  have hz : v 5 f ≠ -1 := hH.zf hf hfi
  have hs := hH.sz hf hfi
  have hrg := (hD f hf).1
  refine Runs.of (by decide) (Nat.le_of_ble_eq_true rfl) fun κ C => ?_
  refine M_aload_n (pc := 0) C dX7_place_0 rfl (by decide) ?_
  refine M_iload_n (pc := 1) C dX7_place_1 rfl ?_
  refine A_cVv (pc := 2) C (a := 0) (c := 7) (c_X7_checkFile hT (f := f) (by omega) hz) yw_X7_checkFile lk_X7_67 rfl (congrArg Prod.fst (tt_0 hT)) hc_7 rfl dX7_place_2 rfl (Nat.le_of_ble_eq_true rfl) (by decide) ⟨Nat.le_refl _, Nat.le_refl _⟩ ?_
  refine M_iload_n (pc := 5) C dX7_place_5 rfl ?_
  refine M_if_lt (pc := 6) C (tgt := 21) (by omega) dX7_place_6 (by decide) (fun h_6 => ?_) (fun h_6 => ?_)
  · exfalso
    omega
  · refine M_iload_n (pc := 9) C dX7_place_9 rfl ?_
    refine M_aload_n (pc := 10) C dX7_place_10 rfl (by decide) ?_
    refine A_getR (pc := 11) C fl_X7_12 rfl (a := 0) (j := 1) rfl (tt_0 hT) rfl dX7_place_11 ?_
    refine M_iload_n (pc := 14) C dX7_place_14 rfl ?_
    refine A_cV (pc := 15) C (x := vI (if v 5 f = -1 then 0 else v 5 f)) (a := 1) (c := 0) (c_X0_sizeOf hT (f := f) (by omega)) yw_X0_sizeOf lk_X7_172 rfl (congrArg Prod.fst (tt_1 hT)) hc_0 rfl dX7_place_15 rfl (Nat.le_of_ble_eq_true rfl) (by decide) ⟨Nat.le_refl _, Nat.le_refl _⟩ ?_
    refine M.to (st2 := [vI (v 5 f), vI ((q : Nat) : Int)]) ?_ rfl (by rw [if_neg hz]) rfl
    refine M_icmp_lt (pc := 18) C (tgt := 31) (by omega) (by omega) dX7_place_18 (by decide) (fun h_18 => ?_) (fun h_18 => ?_)
    · refine M_aload_n (pc := 31) C dX7_place_31 rfl (by decide) ?_
      refine A_getR (pc := 32) C fl_X7_12 rfl (a := 0) (j := 1) rfl (tt_0 hT) rfl dX7_place_32 ?_
      refine M_iload_n (pc := 35) C dX7_place_35 rfl ?_
      refine M_iload_n (pc := 36) C dX7_place_36 rfl ?_
      refine A_cV (pc := 37) C (x := vI (wiN (v 2) (v 3) (v 4) (v 5) (v 6) (v 7) f q)) (a := 1) (c := 0) (c_X0_whereIs hT (f := f) (c := q) hD (by omega) hz (fun h => hH.tb hf h hz) (by omega)) yw_X0_whereIs lk_X7_180 rfl (congrArg Prod.fst (tt_1 hT)) hc_0 rfl dX7_place_37 rfl (Nat.le_of_ble_eq_true rfl) (by decide) ⟨Nat.le_refl _, Nat.le_refl _⟩ ?_
      exact M_iret (pc := 40) C rfl dX7_place_40 (by rw [hH.wi hf (by omega)]) rfl
    · exfalso
      omega
theorem c_X7_blockOf {N : Nat} {T : Ty} {r : Nat → Int} {c : Int} {b w : Nat} {v : Ct} (hT : TT T) (hV : DV v 1 r c) (hb : b < 24) (hw : w < 5) : Runs mX7_blockOf 4 0 0 [vR 0, vI ((b : Nat) : Int), vI ((w : Nat) : Int)] N T v (some (vI (biF r b w))) N T v := by
  obtain ⟨hH, hC⟩ := hV
  have hH : DR (v 2) (v 3) (v 4) (v 5) (v 6) (v 7) (v 8) (v 9) r := hH
  have hC : CNT (v 1) (v 9) r c := hC
  have hD := hH.DI
  refine Runs.of (by decide) (Nat.le_of_ble_eq_true rfl) fun κ C => ?_
  refine M_iload_n (pc := 0) C dX7_blockOf_0 rfl ?_
  refine A_cSv (pc := 1) C (c_X7_checkBlock hT (b := b) (by omega)) yw_X7_checkBlock lk_X7_81 rfl dX7_blockOf_1 rfl (Nat.le_of_ble_eq_true rfl) (by decide) ⟨Nat.le_refl _, Nat.le_refl _⟩ ?_
  refine M_iload_n (pc := 4) C dX7_blockOf_4 rfl ?_
  refine M_iconst (pc := 5) C dX7_blockOf_5 ?_
  refine M_iconst (pc := 6) C dX7_blockOf_6 ?_
  refine A_cSv (pc := 7) C (c_X7_checkArgument hT (x := ((w : Nat) : Int)) (a := 0) (b := 4) (by omega) (by omega) (by omega) (by omega)) yw_X7_checkArgument lk_X7_55 rfl dX7_blockOf_7 rfl (Nat.le_of_ble_eq_true rfl) (by decide) ⟨Nat.le_refl _, Nat.le_refl _⟩ ?_
  refine M_aload_n (pc := 10) C dX7_blockOf_10 rfl (by decide) ?_
  refine A_getR (pc := 11) C fl_X7_12 rfl (a := 0) (j := 1) rfl (tt_0 hT) rfl dX7_blockOf_11 ?_
  refine M_iload_n (pc := 14) C dX7_blockOf_14 rfl ?_
  refine M_iload_n (pc := 15) C dX7_blockOf_15 rfl ?_
  refine A_cV (pc := 16) C (x := vI (bpN (v 2) (v 3) (v 5) (v 6) (v 7) b w)) (a := 1) (c := 0) (c_X0_blockProperty hT (b := b) (w := w) hD (by omega) (by omega)) yw_X0_blockProperty lk_X7_183 rfl (congrArg Prod.fst (tt_1 hT)) hc_0 rfl dX7_blockOf_16 rfl (Nat.le_of_ble_eq_true rfl) (by decide) ⟨Nat.le_refl _, Nat.le_refl _⟩ ?_
  exact M_iret (pc := 19) C rfl dX7_blockOf_19 (by rw [hH.bp hb hw]) rfl
theorem c_X7_count {N : Nat} {T : Ty} {r : Nat → Int} {c : Int} {w s : Nat} {v : Ct} (hT : TT T) (hV : DV v 1 r c) (hw : w < 12) (hs : v 10 1 = (s : Int)) : Runs mX7_count 4 0 0 [vR 0, vI ((w : Nat) : Int)] N T v (some (vI (ctX r s w))) N T v := by
  obtain ⟨hH, hC⟩ := hV
  have hH : DR (v 2) (v 3) (v 4) (v 5) (v 6) (v 7) (v 8) (v 9) r := hH
  have hC : CNT (v 1) (v 9) r c := hC
  have hD := hH.DI
  refine Runs.of (by decide) (Nat.le_of_ble_eq_true rfl) fun κ C => ?_
  refine M_iload_n (pc := 0) C dX7_count_0 rfl ?_
  refine M_iconst (pc := 1) C dX7_count_1 ?_
  refine M_bipush (pc := 2) C (by decide) dX7_count_2 ?_
  refine A_cSv (pc := 4) C (c_X7_checkArgument hT (x := ((w : Nat) : Int)) (a := 0) (b := 11) (by omega) (by omega) (by omega) (by omega)) yw_X7_checkArgument lk_X7_55 rfl dX7_count_4 rfl (Nat.le_of_ble_eq_true rfl) (by decide) ⟨Nat.le_refl _, Nat.le_refl _⟩ ?_
  refine M_iload_n (pc := 7) C dX7_count_7 rfl ?_
  rcases (show w = 0 ∨ w = 1 ∨ w = 2 ∨ w = 3 ∨ w = 4 ∨ w = 5 ∨ w = 6 ∨ w = 7 ∨ w = 8 ∨ w = 9 ∨ w = 10 ∨ w = 11 by omega) with rfl | rfl | rfl | rfl | rfl | rfl | rfl | rfl | rfl | rfl | rfl | rfl
  · refine M_tableIn (pc := 8) C (x := ((0 : Nat) : Int)) (off := 60) (tgt := 68) (by decide) (by decide) rfl dX7_count_8 (by decide) ?_
    refine M_aload_n (pc := 68) C dX7_count_68 rfl (by decide) ?_
    refine A_getR (pc := 69) C fl_X7_12 rfl (a := 0) (j := 1) rfl (tt_0 hT) rfl dX7_count_69 ?_
    refine A_cV (pc := 72) C (x := vI (sumN (fun f => if v 5 f = -1 then 0 else 1) 10)) (a := 1) (c := 0) (c_X0_files hT) yw_X0_files lk_X7_156 rfl (congrArg Prod.fst (tt_1 hT)) hc_0 rfl dX7_count_72 rfl (Nat.le_of_ble_eq_true rfl) (by decide) ⟨Nat.le_refl _, Nat.le_refl _⟩ ?_
    exact M_iret (pc := 75) C rfl dX7_count_75 (by first | (rw [hH.fil]; done) | (rw [hH.fil]; rfl)) rfl
  · refine M_tableIn (pc := 8) C (x := ((1 : Nat) : Int)) (off := 68) (tgt := 76) (by decide) (by decide) rfl dX7_count_8 (by decide) ?_
    refine M_aload_n (pc := 76) C dX7_count_76 rfl (by decide) ?_
    refine A_getR (pc := 77) C fl_X7_12 rfl (a := 0) (j := 1) rfl (tt_0 hT) rfl dX7_count_77 ?_
    refine M_iconst (pc := 80) C dX7_count_80 ?_
    refine A_cV (pc := 81) C (x := vI (sumN (fun b => Bi (decide (v 2 b = 0))) 24)) (a := 1) (c := 0) (c_X0_blocksOf hT (x := 0) (by omega)) yw_X0_blocksOf lk_X7_108 rfl (congrArg Prod.fst (tt_1 hT)) hc_0 rfl dX7_count_81 rfl (Nat.le_of_ble_eq_true rfl) (by decide) ⟨Nat.le_refl _, Nat.le_refl _⟩ ?_
    exact M_iret (pc := 84) C rfl dX7_count_84 (by first | (rw [hH.cnt]; done) | (rw [hH.cnt]; rfl)) rfl
  · refine M_tableIn (pc := 8) C (x := ((2 : Nat) : Int)) (off := 77) (tgt := 85) (by decide) (by decide) rfl dX7_count_8 (by decide) ?_
    refine M_aload_n (pc := 85) C dX7_count_85 rfl (by decide) ?_
    refine A_getR (pc := 86) C fl_X7_12 rfl (a := 0) (j := 1) rfl (tt_0 hT) rfl dX7_count_86 ?_
    refine M_iconst (pc := 89) C dX7_count_89 ?_
    refine A_cV (pc := 90) C (x := vI (sumN (fun b => Bi (decide (v 2 b = 1))) 24)) (a := 1) (c := 0) (c_X0_blocksOf hT (x := 1) (by omega)) yw_X0_blocksOf lk_X7_108 rfl (congrArg Prod.fst (tt_1 hT)) hc_0 rfl dX7_count_90 rfl (Nat.le_of_ble_eq_true rfl) (by decide) ⟨Nat.le_refl _, Nat.le_refl _⟩ ?_
    exact M_iret (pc := 93) C rfl dX7_count_93 (by first | (rw [hH.cnt]; done) | (rw [hH.cnt]; rfl)) rfl
  · refine M_tableIn (pc := 8) C (x := ((3 : Nat) : Int)) (off := 86) (tgt := 94) (by decide) (by decide) rfl dX7_count_8 (by decide) ?_
    refine M_aload_n (pc := 94) C dX7_count_94 rfl (by decide) ?_
    refine A_getR (pc := 95) C fl_X7_12 rfl (a := 0) (j := 1) rfl (tt_0 hT) rfl dX7_count_95 ?_
    refine M_iconst (pc := 98) C dX7_count_98 ?_
    refine A_cV (pc := 99) C (x := vI (sumN (fun b => Bi (decide (v 2 b = 2))) 24)) (a := 1) (c := 0) (c_X0_blocksOf hT (x := 2) (by omega)) yw_X0_blocksOf lk_X7_108 rfl (congrArg Prod.fst (tt_1 hT)) hc_0 rfl dX7_count_99 rfl (Nat.le_of_ble_eq_true rfl) (by decide) ⟨Nat.le_refl _, Nat.le_refl _⟩ ?_
    exact M_iret (pc := 102) C rfl dX7_count_102 (by first | (rw [hH.cnt]; done) | (rw [hH.cnt]; rfl)) rfl
  · refine M_tableIn (pc := 8) C (x := ((4 : Nat) : Int)) (off := 95) (tgt := 103) (by decide) (by decide) rfl dX7_count_8 (by decide) ?_
    refine M_aload_n (pc := 103) C dX7_count_103 rfl (by decide) ?_
    refine A_getR (pc := 104) C fl_X7_12 rfl (a := 0) (j := 1) rfl (tt_0 hT) rfl dX7_count_104 ?_
    refine M_iconst (pc := 107) C dX7_count_107 ?_
    refine A_cV (pc := 108) C (x := vI (sumN (fun b => Bi (decide (v 2 b = 3))) 24)) (a := 1) (c := 0) (c_X0_blocksOf hT (x := 3) (by omega)) yw_X0_blocksOf lk_X7_108 rfl (congrArg Prod.fst (tt_1 hT)) hc_0 rfl dX7_count_108 rfl (Nat.le_of_ble_eq_true rfl) (by decide) ⟨Nat.le_refl _, Nat.le_refl _⟩ ?_
    exact M_iret (pc := 111) C rfl dX7_count_111 (by first | (rw [hH.cnt]; done) | (rw [hH.cnt]; rfl)) rfl
  · refine M_tableIn (pc := 8) C (x := ((5 : Nat) : Int)) (off := 104) (tgt := 112) (by decide) (by decide) rfl dX7_count_8 (by decide) ?_
    refine M_bipush (pc := 112) C (by decide) dX7_count_112 ?_
    refine M_aload_n (pc := 114) C dX7_count_114 rfl (by decide) ?_
    refine A_getR (pc := 115) C fl_X7_12 rfl (a := 0) (j := 1) rfl (tt_0 hT) rfl dX7_count_115 ?_
    refine M_iconst (pc := 118) C dX7_count_118 ?_
    refine A_cV (pc := 119) C (x := vI (sumN (fun b => Bi (decide (v 2 b = 1))) 24)) (a := 1) (c := 0) (c_X0_blocksOf hT (x := 1) (by omega)) yw_X0_blocksOf lk_X7_108 rfl (congrArg Prod.fst (tt_1 hT)) hc_0 rfl dX7_count_119 rfl (Nat.le_of_ble_eq_true rfl) (by decide) ⟨Nat.le_refl _, Nat.le_refl _⟩ ?_
    refine M_imul (pc := 122) C dX7_count_122 ?_
    refine M_aload_n (pc := 123) C dX7_count_123 rfl (by decide) ?_
    refine A_getR (pc := 124) C fl_X7_12 rfl (a := 0) (j := 1) rfl (tt_0 hT) rfl dX7_count_124 ?_
    refine A_cV (pc := 127) C (x := vI (sumN (fun b => ((tcN (v 2) (v 5) (v 6) (v 7) b : Nat) : Int)) 24)) (a := 1) (c := 0) (c_X0_sharedTailCells hT hD) yw_X0_sharedTailCells lk_X7_186 rfl (congrArg Prod.fst (tt_1 hT)) hc_0 rfl dX7_count_127 rfl (Nat.le_of_ble_eq_true rfl) (by decide) ⟨Nat.le_refl _, Nat.le_refl _⟩ ?_
    refine M_iadd (pc := 130) C dX7_count_130 ?_
    exact M_iret (pc := 131) C rfl dX7_count_131 (by first | (rw [hH.cnt, hH.gcS]; done) | (rw [hH.cnt, hH.gcS]; rfl)) rfl
  · refine M_tableIn (pc := 8) C (x := ((6 : Nat) : Int)) (off := 124) (tgt := 132) (by decide) (by decide) rfl dX7_count_8 (by decide) ?_
    refine M_bipush (pc := 132) C (by decide) dX7_count_132 ?_
    refine M_aload_n (pc := 134) C dX7_count_134 rfl (by decide) ?_
    refine A_getR (pc := 135) C fl_X7_12 rfl (a := 0) (j := 1) rfl (tt_0 hT) rfl dX7_count_135 ?_
    refine M_iconst (pc := 138) C dX7_count_138 ?_
    refine A_cV (pc := 139) C (x := vI (sumN (fun b => Bi (decide (v 2 b = 2))) 24)) (a := 1) (c := 0) (c_X0_blocksOf hT (x := 2) (by omega)) yw_X0_blocksOf lk_X7_108 rfl (congrArg Prod.fst (tt_1 hT)) hc_0 rfl dX7_count_139 rfl (Nat.le_of_ble_eq_true rfl) (by decide) ⟨Nat.le_refl _, Nat.le_refl _⟩ ?_
    refine M_imul (pc := 142) C dX7_count_142 ?_
    refine M_aload_n (pc := 143) C dX7_count_143 rfl (by decide) ?_
    refine A_getR (pc := 144) C fl_X7_12 rfl (a := 0) (j := 1) rfl (tt_0 hT) rfl dX7_count_144 ?_
    refine A_cV (pc := 147) C (x := vI (sumN (fun b => ((tcN (v 2) (v 5) (v 6) (v 7) b : Nat) : Int)) 24)) (a := 1) (c := 0) (c_X0_sharedTailCells hT hD) yw_X0_sharedTailCells lk_X7_186 rfl (congrArg Prod.fst (tt_1 hT)) hc_0 rfl dX7_count_147 rfl (Nat.le_of_ble_eq_true rfl) (by decide) ⟨Nat.le_refl _, Nat.le_refl _⟩ ?_
    refine M_isub (pc := 150) C dX7_count_150 ?_
    exact M_iret (pc := 151) C rfl dX7_count_151 (by first | (rw [hH.cnt, hH.gcS, hH.gp]; done) | (rw [hH.cnt, hH.gcS, hH.gp]; rfl)) rfl
  · refine M_tableIn (pc := 8) C (x := ((7 : Nat) : Int)) (off := 144) (tgt := 152) (by decide) (by decide) rfl dX7_count_8 (by decide) ?_
    refine M_aload_n (pc := 152) C dX7_count_152 rfl (by decide) ?_
    refine A_getR (pc := 153) C fl_X7_12 rfl (a := 0) (j := 1) rfl (tt_0 hT) rfl dX7_count_153 ?_
    refine A_cV (pc := 156) C (x := vI (sumN (v 8) 10)) (a := 1) (c := 0) (c_X0_brokenFiles hT hD) yw_X0_brokenFiles lk_X7_189 rfl (congrArg Prod.fst (tt_1 hT)) hc_0 rfl dX7_count_156 rfl (Nat.le_of_ble_eq_true rfl) (by decide) ⟨Nat.le_refl _, Nat.le_refl _⟩ ?_
    exact M_iret (pc := 159) C rfl dX7_count_159 (by first | (rw [hH.brk]; done) | (rw [hH.brk]; rfl)) rfl
  · refine M_tableIn (pc := 8) C (x := ((8 : Nat) : Int)) (off := 152) (tgt := 160) (by decide) (by decide) rfl dX7_count_8 (by decide) ?_
    refine M_aload_n (pc := 160) C dX7_count_160 rfl (by decide) ?_
    refine A_getR (pc := 161) C fl_X7_12 rfl (a := 0) (j := 1) rfl (tt_0 hT) rfl dX7_count_161 ?_
    refine A_getI (pc := 164) C fl_X7_192 rfl (a := 1) rfl (tt_1 hT) dX7_count_164 (fun (r_164 : i32 (v 1 8)) => ?_)
    exact M_iret (pc := 167) C rfl dX7_count_167 (by first | (rw [hC.1]; done) | (rw [hC.1]; rfl)) rfl
  · refine M_tableIn (pc := 8) C (x := ((9 : Nat) : Int)) (off := 160) (tgt := 168) (by decide) (by decide) rfl dX7_count_8 (by decide) ?_
    refine M_aload_n (pc := 168) C dX7_count_168 rfl (by decide) ?_
    refine A_getR (pc := 169) C fl_X7_12 rfl (a := 0) (j := 1) rfl (tt_0 hT) rfl dX7_count_169 ?_
    refine A_getI (pc := 172) C fl_X7_195 rfl (a := 1) rfl (tt_1 hT) dX7_count_172 (fun (r_172 : i32 (v 1 9)) => ?_)
    exact M_iret (pc := 175) C rfl dX7_count_175 (by first | (rw [hC.2.1]; done) | (rw [hC.2.1]; rfl)) rfl
  · refine M_tableIn (pc := 8) C (x := ((10 : Nat) : Int)) (off := 168) (tgt := 176) (by decide) (by decide) rfl dX7_count_8 (by decide) ?_
    refine M_aload_n (pc := 176) C dX7_count_176 rfl (by decide) ?_
    refine A_getR (pc := 177) C fl_X7_12 rfl (a := 0) (j := 1) rfl (tt_0 hT) rfl dX7_count_177 ?_
    refine A_getI (pc := 180) C fl_X7_118 rfl (a := 1) rfl (tt_1 hT) dX7_count_180 (fun (r_180 : i32 (v 1 10)) => ?_)
    exact M_iret (pc := 183) C rfl dX7_count_183 (by first | (rw [hC.2.2.1]; done) | (rw [hC.2.2.1]; rfl)) rfl
  · refine M_tableOut (pc := 8) C (x := ((11 : Nat) : Int)) (tgt := 184) (by decide) (by decide) dX7_count_8 (by decide) ?_
    refine M_aload_n (pc := 184) C dX7_count_184 rfl (by decide) ?_
    refine A_getR (pc := 185) C fl_X7_19 rfl (a := 0) (j := 10) rfl (tt_0 hT) rfl dX7_count_185 ?_
    refine A_cV (pc := 188) C (x := vI (v 10 1)) (a := 10) (c := 2) (c_X2_held hT) yw_X2_held lk_X7_161 rfl (congrArg Prod.fst (tt_10 hT)) hc_2 rfl dX7_count_188 rfl (Nat.le_of_ble_eq_true rfl) (by decide) ⟨Nat.le_refl _, Nat.le_refl _⟩ ?_
    exact M_iret (pc := 191) C rfl dX7_count_191 (by first | (rw [hs]; done) | (rw [hs]; rfl)) rfl
theorem DR.go {K O Rk Z B S W P r : Nat → Int} (H : DR K O Rk Z B S W P r) {f n : Nat} (hf : f < 10) (hfi : ro r f 0 = 1) (hn : 1 ≤ n ∧ n ≤ 200) : goN K Z B S W f (n : Int) = opV (gwO r f n) := by
  have hz := H.zf hf hfi
  obtain ⟨z, hz2⟩ : ∃ z : Nat, Z f = (z : Int) := ⟨(Z f).toNat, by have := (H.wf hf hz).2.2.2.2; omega⟩
  obtain ⟨h1, h2, h3⟩ := H.grow hf hz2 hn
  have hb := goN_bd K Z B S W f (n : Int)
  rcases (show goN K Z B S W f (n : Int) = -1 ∨ goN K Z B S W f (n : Int) = 0 ∨ goN K Z B S W f (n : Int) = 1 by omega) with hg | hg | hg
  · rw [h1 hg, hg]; rfl
  · obtain ⟨r3, k1, -⟩ := h2 hg
    rw [k1, hg]; rfl
  · obtain ⟨r3, k1, -⟩ := h3 hg
    rw [k1, hg]; rfl
theorem c_X7_ifGrown {N : Nat} {T : Ty} {r : Nat → Int} {c : Int} {f n : Nat} {v : Ct} (hT : TT T) (hV : DV v 1 r c) (hf : f < 10) (hfi : ro r f 0 = 1) (hn : 1 ≤ n ∧ n ≤ 200) : Runs mX7_ifGrown 4 0 0 [vR 0, vI ((f : Nat) : Int), vI ((n : Nat) : Int)] N T v (some (vI (opV (gwO r f n)))) N T v := by
  obtain ⟨hH, hC⟩ := hV
  have hH : DR (v 2) (v 3) (v 4) (v 5) (v 6) (v 7) (v 8) (v 9) r := hH
  have hC : CNT (v 1) (v 9) r c := hC
  have hD := hH.DI
  have hz : v 5 f ≠ -1 := hH.zf hf hfi
  refine Runs.of (by decide) (Nat.le_of_ble_eq_true rfl) fun κ C => ?_
  refine M_aload_n (pc := 0) C dX7_ifGrown_0 rfl (by decide) ?_
  refine M_iload_n (pc := 1) C dX7_ifGrown_1 rfl ?_
  refine A_cVv (pc := 2) C (a := 0) (c := 7) (c_X7_checkFile hT (f := f) (by omega) hz) yw_X7_checkFile lk_X7_67 rfl (congrArg Prod.fst (tt_0 hT)) hc_7 rfl dX7_ifGrown_2 rfl (Nat.le_of_ble_eq_true rfl) (by decide) ⟨Nat.le_refl _, Nat.le_refl _⟩ ?_
  refine M_iload_n (pc := 5) C dX7_ifGrown_5 rfl ?_
  refine M_iconst (pc := 6) C dX7_ifGrown_6 ?_
  refine M_sipush (pc := 7) C (by decide) dX7_ifGrown_7 ?_
  refine A_cSv (pc := 10) C (c_X7_checkArgument hT (x := ((n : Nat) : Int)) (a := 1) (b := 200) (by omega) (by omega) (by omega) (by omega)) yw_X7_checkArgument lk_X7_55 rfl dX7_ifGrown_10 rfl (Nat.le_of_ble_eq_true rfl) (by decide) ⟨Nat.le_refl _, Nat.le_refl _⟩ ?_
  refine M_aload_n (pc := 13) C dX7_ifGrown_13 rfl (by decide) ?_
  refine A_getR (pc := 14) C fl_X7_12 rfl (a := 0) (j := 1) rfl (tt_0 hT) rfl dX7_ifGrown_14 ?_
  refine M_iload_n (pc := 17) C dX7_ifGrown_17 rfl ?_
  refine M_iload_n (pc := 18) C dX7_ifGrown_18 rfl ?_
  refine A_cV (pc := 19) C (x := vI (goN (v 2) (v 5) (v 6) (v 7) (v 8) f ((n : Nat) : Int))) (a := 1) (c := 0) (c_X0_growthOf hT (f := f) (n := ((n : Nat) : Int)) hD (by omega) hz (by omega)) yw_X0_growthOf lk_X7_201 rfl (congrArg Prod.fst (tt_1 hT)) hc_0 rfl dX7_ifGrown_19 rfl (Nat.le_of_ble_eq_true rfl) (by decide) ⟨Nat.le_refl _, Nat.le_refl _⟩ ?_
  exact M_iret (pc := 22) C rfl dX7_ifGrown_22 (by rw [hH.go hf hfi hn]) rfl
theorem c_X7_fewest {N : Nat} {T : Ty} {r : Nat → Int} {c : Int} {w : Nat} {v : Ct} (hT : TT T) (hV : DV v 1 r c) (hw : w < 2) : RunsP mX7_fewest 12 0 0 [vR 0, vI ((w : Nat) : Int)] N T v N T (fun r1 v1 => r1 = some (vI (fbG r)) ∧ ∀ a, (a < 78 ∨ 84 ≤ a) → v1 a = v a) := by
  refine RunsP.of (by decide) (Nat.le_of_ble_eq_true rfl) fun κ C => ?_
  refine M_iload_n (pc := 0) C dX7_fewest_0 rfl ?_
  refine M_iconst (pc := 1) C dX7_fewest_1 ?_
  refine M_iconst (pc := 2) C dX7_fewest_2 ?_
  refine A_cSv (pc := 3) C (c_X7_checkArgument hT (x := ((w : Nat) : Int)) (a := 0) (b := 1) (by omega) (by omega) (by omega) (by omega)) yw_X7_checkArgument lk_X7_55 rfl dX7_fewest_3 rfl (Nat.le_of_ble_eq_true rfl) (by decide) ⟨Nat.le_refl _, Nat.le_refl _⟩ ?_
  refine M_iload_n (pc := 6) C dX7_fewest_6 rfl ?_
  refine M_if_ne (pc := 7) C (tgt := 24) (by omega) dX7_fewest_7 (by decide) (fun h_7 => ?_) (fun h_7 => ?_)
  · refine M_aload_n (pc := 24) C dX7_fewest_24 rfl (by decide) ?_
    refine A_getR (pc := 25) C fl_X7_51 rfl (a := 0) (j := 77) rfl (tt_0 hT) rfl dX7_fewest_25 ?_
    refine M_aload_n (pc := 28) C dX7_fewest_28 rfl (by decide) ?_
    refine A_getR (pc := 29) C fl_X7_12 rfl (a := 0) (j := 1) rfl (tt_0 hT) rfl dX7_fewest_29 ?_
    refine A_pV (pc := 32) C (a := 77) (c := 1) (c_X1_byTryingR (v := v) (r := r) (c := c) hT hV) yw_X1_byTrying lk_X7_210 rfl (congrArg Prod.fst (tt_77 hT)) hc_1 rfl dX7_fewest_32 rfl (Nat.le_of_ble_eq_true rfl) (by decide) ⟨Nat.le_refl _, Nat.le_refl _⟩ (fun r_32 v_32 p_32 => ?_)
    obtain ⟨rfl, hf_32⟩ := p_32
    refine M.to (pc := 35) (st2 := [vI (fbG r)]) (v2 := v_32) ?_ rfl rfl rfl
    exact M_iretP (pc := 35) C rfl dX7_fewest_35 ⟨rfl, by assumption⟩
  · refine M_aload_n (pc := 10) C dX7_fewest_10 rfl (by decide) ?_
    refine A_getR (pc := 11) C fl_X7_51 rfl (a := 0) (j := 77) rfl (tt_0 hT) rfl dX7_fewest_11 ?_
    refine M_aload_n (pc := 14) C dX7_fewest_14 rfl (by decide) ?_
    refine A_getR (pc := 15) C fl_X7_12 rfl (a := 0) (j := 1) rfl (tt_0 hT) rfl dX7_fewest_15 ?_
    refine A_pV (pc := 18) C (a := 77) (c := 1) (c_X1_bySetsR (v := v) (r := r) (c := c) hT hV) yw_X1_bySets lk_X7_207 rfl (congrArg Prod.fst (tt_77 hT)) hc_1 rfl dX7_fewest_18 rfl (Nat.le_of_ble_eq_true rfl) (by decide) ⟨Nat.le_refl _, Nat.le_refl _⟩ (fun r_18 v_18 p_18 => ?_)
    obtain ⟨rfl, hf_18⟩ := p_18
    refine M.to (pc := 21) (st2 := [vI (fbG r)]) (v2 := v_18) ?_ rfl rfl rfl
    refine M_goto (pc := 21) C (tgt := 35) dX7_fewest_21 (by decide) ?_
    exact M_iretP (pc := 35) C rfl dX7_fewest_35 ⟨rfl, by assumption⟩
theorem c_X7_ifPacked {N : Nat} {T : Ty} {r : Nat → Int} {c : Int} {v : Ct} (hT : TT T) (hV : DV v 1 r c) : RunsP mX7_ifPacked 5 0 0 [vR 0] N T v N T (fun r1 v1 => r1 = some (vI (pkV r)) ∧ ∀ a, (a < 71 ∨ 77 ≤ a) → v1 a = v a) := by
  refine RunsP.of (by decide) (Nat.le_of_ble_eq_true rfl) fun κ C => ?_
  refine M_aload_n (pc := 0) C dX7_ifPacked_0 rfl (by decide) ?_
  refine A_getR (pc := 1) C fl_X7_44 rfl (a := 0) (j := 70) rfl (tt_0 hT) rfl dX7_ifPacked_1 ?_
  refine M_aload_n (pc := 4) C dX7_ifPacked_4 rfl (by decide) ?_
  refine A_getR (pc := 5) C fl_X7_12 rfl (a := 0) (j := 1) rfl (tt_0 hT) rfl dX7_ifPacked_5 ?_
  refine A_pV (pc := 8) C (a := 70) (c := 4) (c_X4_planR (v := v) (r := r) (c := c) hT hV) yw_X4_plan lk_X7_111 rfl (congrArg Prod.fst (tt_70 hT)) hc_4 rfl dX7_ifPacked_8 rfl (Nat.le_of_ble_eq_true rfl) (by decide) ⟨Nat.le_refl _, Nat.le_refl _⟩ (fun r_8 v_8 p_8 => ?_)
  obtain ⟨rfl, hf_8, ho_8⟩ := p_8
  refine M.to (pc := 11) (st2 := [vI (pkV r)]) (v2 := v_8) ?_ rfl rfl rfl
  exact M_iretP (pc := 11) C rfl dX7_ifPacked_11 ⟨rfl, hf_8⟩
theorem c_X7_create {N : Nat} {T : Ty} {r P : Nat → Int} {c : Int} {s : Nat} {x : Nat} {v : Ct} (hT : TT T) (hV : DV v 1 r c) (hHV : HVr v P s c) (hc : c < 1000000) (hx : x ≤ 200) : RunsP mX7_create 5 0 0 [vR 0, vI ((x : Nat) : Int)] N T v N T (fun r1 v1 => r1 = some (vI (crV r x)) ∧ DV v1 1 (crR r x) (c + 1) ∧ HVr v1 (svP P r s) (svN s) (c + 1) ∧ fr v v1) := by
  refine RunsP.of (by decide) (Nat.le_of_ble_eq_true rfl) fun κ C => ?_
  refine M_iload_n (pc := 0) C dX7_create_0 rfl ?_
  refine M_iconst (pc := 1) C dX7_create_1 ?_
  refine M_sipush (pc := 2) C (by decide) dX7_create_2 ?_
  refine A_cSv (pc := 5) C (c_X7_checkArgument hT (x := ((x : Nat) : Int)) (a := 0) (b := 200) (by omega) (by omega) (by omega) (by omega)) yw_X7_checkArgument lk_X7_55 rfl dX7_create_5 rfl (Nat.le_of_ble_eq_true rfl) (by decide) ⟨Nat.le_refl _, Nat.le_refl _⟩ ?_
  refine M_aload_n (pc := 8) C dX7_create_8 rfl (by decide) ?_
  refine A_getR (pc := 9) C fl_X7_19 rfl (a := 0) (j := 10) rfl (tt_0 hT) rfl dX7_create_9 ?_
  refine M_aload_n (pc := 12) C dX7_create_12 rfl (by decide) ?_
  refine A_getR (pc := 13) C fl_X7_12 rfl (a := 0) (j := 1) rfl (tt_0 hT) rfl dX7_create_13 ?_
  refine A_pV (pc := 16) C (a := 10) (c := 2) (c_X2_storeR (v := v) (r := r) (P := P) (c := c) (s := s) hT hHV hV) yw_X2_store lk_X7_59 rfl (congrArg Prod.fst (tt_10 hT)) hc_2 rfl dX7_create_16 rfl (Nat.le_of_ble_eq_true rfl) (by decide) ⟨Nat.le_refl _, Nat.le_refl _⟩ (fun r_16 v_16 p_16 => ?_)
  obtain ⟨rfl, hH_16, hf_16⟩ := p_16
  refine M.to (pc := 19) (st2 := []) (v2 := v_16) ?_ rfl rfl rfl
  have hV_16 : DV v_16 1 r c := hV.same (fun k hk => hf_16 _ (Or.inl (by omega))) (fun _ _ => rfl)
  refine M_aload_n (pc := 19) C dX7_create_19 rfl (by decide) ?_
  refine A_getR (pc := 20) C fl_X7_12 rfl (a := 0) (j := 1) rfl (tt_0 hT) rfl dX7_create_20 ?_
  refine M_iload_n (pc := 23) C dX7_create_23 rfl ?_
  refine A_pV (pc := 24) C (a := 1) (c := 0) (c_X0_addFileR (v := v_16) (r := r) (c := c) hT hV_16 hc (s := x) (by omega)) yw_X0_addFile lk_X7_63 rfl (congrArg Prod.fst (tt_1 hT)) hc_0 rfl dX7_create_24 rfl (Nat.le_of_ble_eq_true rfl) (by decide) ⟨Nat.le_refl _, Nat.le_refl _⟩ (fun r_24 v_24 p_24 => ?_)
  obtain ⟨rfl, hW_24, ho_24⟩ := p_24
  refine M.to (pc := 27) (st2 := [vI (crV r x)]) (v2 := v_24) ?_ rfl rfl rfl
  exact M_iretP (pc := 27) C rfl dX7_create_27 ⟨rfl, hW_24, (hH_16.same (fun a h1 h2 => ho_24 a (Or.inr h1))).mono (by omega), fun a ha => (ho_24 a (Or.inr (by omega))).trans (hf_16 a (Or.inr (by omega)))⟩
theorem c_X7_grow {N : Nat} {T : Ty} {r P : Nat → Int} {c : Int} {s : Nat} {f n : Nat} {v : Ct} (hT : TT T) (hV : DV v 1 r c) (hHV : HVr v P s c) (hc : c < 1000000) (hf : f < 10) (hfi : ro r f 0 = 1) (hn : 1 ≤ n ∧ n ≤ 200) : RunsP mX7_grow 5 0 0 [vR 0, vI ((f : Nat) : Int), vI ((n : Nat) : Int)] N T v N T (fun r1 v1 => r1 = some (vI (opV (gwO r f n))) ∧ DV v1 1 (opR r (gwO r f n)) (c + 1) ∧ HVr v1 (svP P r s) (svN s) (c + 1) ∧ fr v v1) := by
  have hH : DR (v 2) (v 3) (v 4) (v 5) (v 6) (v 7) (v 8) (v 9) r := hV.1
  have hC : CNT (v 1) (v 9) r c := hV.2
  have hD := hH.DI
  have hz : v 5 f ≠ -1 := hH.zf hf hfi
  refine RunsP.of (by decide) (Nat.le_of_ble_eq_true rfl) fun κ C => ?_
  refine M_aload_n (pc := 0) C dX7_grow_0 rfl (by decide) ?_
  refine M_iload_n (pc := 1) C dX7_grow_1 rfl ?_
  refine A_cVv (pc := 2) C (a := 0) (c := 7) (c_X7_checkFile hT (f := f) (by omega) hz) yw_X7_checkFile lk_X7_67 rfl (congrArg Prod.fst (tt_0 hT)) hc_7 rfl dX7_grow_2 rfl (Nat.le_of_ble_eq_true rfl) (by decide) ⟨Nat.le_refl _, Nat.le_refl _⟩ ?_
  refine M_iload_n (pc := 5) C dX7_grow_5 rfl ?_
  refine M_iconst (pc := 6) C dX7_grow_6 ?_
  refine M_sipush (pc := 7) C (by decide) dX7_grow_7 ?_
  refine A_cSv (pc := 10) C (c_X7_checkArgument hT (x := ((n : Nat) : Int)) (a := 1) (b := 200) (by omega) (by omega) (by omega) (by omega)) yw_X7_checkArgument lk_X7_55 rfl dX7_grow_10 rfl (Nat.le_of_ble_eq_true rfl) (by decide) ⟨Nat.le_refl _, Nat.le_refl _⟩ ?_
  refine M_aload_n (pc := 13) C dX7_grow_13 rfl (by decide) ?_
  refine A_getR (pc := 14) C fl_X7_19 rfl (a := 0) (j := 10) rfl (tt_0 hT) rfl dX7_grow_14 ?_
  refine M_aload_n (pc := 17) C dX7_grow_17 rfl (by decide) ?_
  refine A_getR (pc := 18) C fl_X7_12 rfl (a := 0) (j := 1) rfl (tt_0 hT) rfl dX7_grow_18 ?_
  refine A_pV (pc := 21) C (a := 10) (c := 2) (c_X2_storeR (v := v) (r := r) (P := P) (c := c) (s := s) hT hHV hV) yw_X2_store lk_X7_59 rfl (congrArg Prod.fst (tt_10 hT)) hc_2 rfl dX7_grow_21 rfl (Nat.le_of_ble_eq_true rfl) (by decide) ⟨Nat.le_refl _, Nat.le_refl _⟩ (fun r_21 v_21 p_21 => ?_)
  obtain ⟨rfl, hH_21, hf_21⟩ := p_21
  refine M.to (pc := 24) (st2 := []) (v2 := v_21) ?_ rfl rfl rfl
  have hV_21 : DV v_21 1 r c := hV.same (fun k hk => hf_21 _ (Or.inl (by omega))) (fun _ _ => rfl)
  refine M_aload_n (pc := 24) C dX7_grow_24 rfl (by decide) ?_
  refine A_getR (pc := 25) C fl_X7_12 rfl (a := 0) (j := 1) rfl (tt_0 hT) rfl dX7_grow_25 ?_
  refine M_iload_n (pc := 28) C dX7_grow_28 rfl ?_
  refine M_iload_n (pc := 29) C dX7_grow_29 rfl ?_
  refine A_pV (pc := 30) C (a := 1) (c := 0) (c_X0_extendR (v := v_21) (r := r) (c := c) hT hV_21 hc (f := f) (n := n) (by omega) hfi (by omega)) yw_X0_extend lk_X7_71 rfl (congrArg Prod.fst (tt_1 hT)) hc_0 rfl dX7_grow_30 rfl (Nat.le_of_ble_eq_true rfl) (by decide) ⟨Nat.le_refl _, Nat.le_refl _⟩ (fun r_30 v_30 p_30 => ?_)
  obtain ⟨rfl, hW_30, ho_30⟩ := p_30
  refine M.to (pc := 33) (st2 := [vI (opV (gwO r f n))]) (v2 := v_30) ?_ rfl rfl rfl
  exact M_iretP (pc := 33) C rfl dX7_grow_33 ⟨rfl, hW_30, (hH_21.same (fun a h1 h2 => ho_30 a (Or.inr h1))).mono (by omega), fun a ha => (ho_30 a (Or.inr (by omega))).trans (hf_21 a (Or.inr (by omega)))⟩
theorem c_X7_cut {N : Nat} {T : Ty} {r P : Nat → Int} {c : Int} {s : Nat} {f n : Nat} {v : Ct} (hT : TT T) (hV : DV v 1 r c) (hHV : HVr v P s c) (hc : c < 1000000) (hf : f < 10) (hfi : ro r f 0 = 1) (hn : 1 ≤ n ∧ n ≤ 200) : RunsP mX7_cut 5 0 0 [vR 0, vI ((f : Nat) : Int), vI ((n : Nat) : Int)] N T v N T (fun r1 v1 => r1 = some (vI (opV (cuO r f n))) ∧ DV v1 1 (opR r (cuO r f n)) (c + 1) ∧ HVr v1 (svP P r s) (svN s) (c + 1) ∧ fr v v1) := by
  have hH : DR (v 2) (v 3) (v 4) (v 5) (v 6) (v 7) (v 8) (v 9) r := hV.1
  have hC : CNT (v 1) (v 9) r c := hV.2
  have hD := hH.DI
  have hz : v 5 f ≠ -1 := hH.zf hf hfi
  refine RunsP.of (by decide) (Nat.le_of_ble_eq_true rfl) fun κ C => ?_
  refine M_aload_n (pc := 0) C dX7_cut_0 rfl (by decide) ?_
  refine M_iload_n (pc := 1) C dX7_cut_1 rfl ?_
  refine A_cVv (pc := 2) C (a := 0) (c := 7) (c_X7_checkFile hT (f := f) (by omega) hz) yw_X7_checkFile lk_X7_67 rfl (congrArg Prod.fst (tt_0 hT)) hc_7 rfl dX7_cut_2 rfl (Nat.le_of_ble_eq_true rfl) (by decide) ⟨Nat.le_refl _, Nat.le_refl _⟩ ?_
  refine M_iload_n (pc := 5) C dX7_cut_5 rfl ?_
  refine M_iconst (pc := 6) C dX7_cut_6 ?_
  refine M_sipush (pc := 7) C (by decide) dX7_cut_7 ?_
  refine A_cSv (pc := 10) C (c_X7_checkArgument hT (x := ((n : Nat) : Int)) (a := 1) (b := 200) (by omega) (by omega) (by omega) (by omega)) yw_X7_checkArgument lk_X7_55 rfl dX7_cut_10 rfl (Nat.le_of_ble_eq_true rfl) (by decide) ⟨Nat.le_refl _, Nat.le_refl _⟩ ?_
  refine M_aload_n (pc := 13) C dX7_cut_13 rfl (by decide) ?_
  refine A_getR (pc := 14) C fl_X7_19 rfl (a := 0) (j := 10) rfl (tt_0 hT) rfl dX7_cut_14 ?_
  refine M_aload_n (pc := 17) C dX7_cut_17 rfl (by decide) ?_
  refine A_getR (pc := 18) C fl_X7_12 rfl (a := 0) (j := 1) rfl (tt_0 hT) rfl dX7_cut_18 ?_
  refine A_pV (pc := 21) C (a := 10) (c := 2) (c_X2_storeR (v := v) (r := r) (P := P) (c := c) (s := s) hT hHV hV) yw_X2_store lk_X7_59 rfl (congrArg Prod.fst (tt_10 hT)) hc_2 rfl dX7_cut_21 rfl (Nat.le_of_ble_eq_true rfl) (by decide) ⟨Nat.le_refl _, Nat.le_refl _⟩ (fun r_21 v_21 p_21 => ?_)
  obtain ⟨rfl, hH_21, hf_21⟩ := p_21
  refine M.to (pc := 24) (st2 := []) (v2 := v_21) ?_ rfl rfl rfl
  have hV_21 : DV v_21 1 r c := hV.same (fun k hk => hf_21 _ (Or.inl (by omega))) (fun _ _ => rfl)
  refine M_aload_n (pc := 24) C dX7_cut_24 rfl (by decide) ?_
  refine A_getR (pc := 25) C fl_X7_12 rfl (a := 0) (j := 1) rfl (tt_0 hT) rfl dX7_cut_25 ?_
  refine M_iload_n (pc := 28) C dX7_cut_28 rfl ?_
  refine M_iload_n (pc := 29) C dX7_cut_29 rfl ?_
  refine A_pV (pc := 30) C (a := 1) (c := 0) (c_X0_shortenR (v := v_21) (r := r) (c := c) hT hV_21 hc (f := f) (n := n) (by omega) hfi (by omega)) yw_X0_shorten lk_X7_75 rfl (congrArg Prod.fst (tt_1 hT)) hc_0 rfl dX7_cut_30 rfl (Nat.le_of_ble_eq_true rfl) (by decide) ⟨Nat.le_refl _, Nat.le_refl _⟩ (fun r_30 v_30 p_30 => ?_)
  obtain ⟨rfl, hW_30, ho_30⟩ := p_30
  refine M.to (pc := 33) (st2 := [vI (opV (cuO r f n))]) (v2 := v_30) ?_ rfl rfl rfl
  exact M_iretP (pc := 33) C rfl dX7_cut_33 ⟨rfl, hW_30, (hH_21.same (fun a h1 h2 => ho_30 a (Or.inr h1))).mono (by omega), fun a ha => (ho_30 a (Or.inr (by omega))).trans (hf_21 a (Or.inr (by omega)))⟩
theorem c_X7_delete {N : Nat} {T : Ty} {r P : Nat → Int} {c : Int} {s : Nat} {f : Nat} {v : Ct} (hT : TT T) (hV : DV v 1 r c) (hHV : HVr v P s c) (hc : c < 1000000) (hf : f < 10) (hfi : ro r f 0 = 1) : RunsP mX7_delete 4 0 0 [vR 0, vI ((f : Nat) : Int)] N T v N T (fun r1 v1 => r1 = some (vI (dlV r f)) ∧ DV v1 1 (dlR r f) (c + 1) ∧ HVr v1 (svP P r s) (svN s) (c + 1) ∧ fr v v1) := by
  have hH : DR (v 2) (v 3) (v 4) (v 5) (v 6) (v 7) (v 8) (v 9) r := hV.1
  have hC : CNT (v 1) (v 9) r c := hV.2
  have hD := hH.DI
  have hz : v 5 f ≠ -1 := hH.zf hf hfi
  refine RunsP.of (by decide) (Nat.le_of_ble_eq_true rfl) fun κ C => ?_
  refine M_aload_n (pc := 0) C dX7_delete_0 rfl (by decide) ?_
  refine M_iload_n (pc := 1) C dX7_delete_1 rfl ?_
  refine A_cVv (pc := 2) C (a := 0) (c := 7) (c_X7_checkFile hT (f := f) (by omega) hz) yw_X7_checkFile lk_X7_67 rfl (congrArg Prod.fst (tt_0 hT)) hc_7 rfl dX7_delete_2 rfl (Nat.le_of_ble_eq_true rfl) (by decide) ⟨Nat.le_refl _, Nat.le_refl _⟩ ?_
  refine M_aload_n (pc := 5) C dX7_delete_5 rfl (by decide) ?_
  refine A_getR (pc := 6) C fl_X7_19 rfl (a := 0) (j := 10) rfl (tt_0 hT) rfl dX7_delete_6 ?_
  refine M_aload_n (pc := 9) C dX7_delete_9 rfl (by decide) ?_
  refine A_getR (pc := 10) C fl_X7_12 rfl (a := 0) (j := 1) rfl (tt_0 hT) rfl dX7_delete_10 ?_
  refine A_pV (pc := 13) C (a := 10) (c := 2) (c_X2_storeR (v := v) (r := r) (P := P) (c := c) (s := s) hT hHV hV) yw_X2_store lk_X7_59 rfl (congrArg Prod.fst (tt_10 hT)) hc_2 rfl dX7_delete_13 rfl (Nat.le_of_ble_eq_true rfl) (by decide) ⟨Nat.le_refl _, Nat.le_refl _⟩ (fun r_13 v_13 p_13 => ?_)
  obtain ⟨rfl, hH_13, hf_13⟩ := p_13
  refine M.to (pc := 16) (st2 := []) (v2 := v_13) ?_ rfl rfl rfl
  have hV_13 : DV v_13 1 r c := hV.same (fun k hk => hf_13 _ (Or.inl (by omega))) (fun _ _ => rfl)
  refine M_aload_n (pc := 16) C dX7_delete_16 rfl (by decide) ?_
  refine A_getR (pc := 17) C fl_X7_12 rfl (a := 0) (j := 1) rfl (tt_0 hT) rfl dX7_delete_17 ?_
  refine M_iload_n (pc := 20) C dX7_delete_20 rfl ?_
  refine A_pV (pc := 21) C (a := 1) (c := 0) (c_X0_removeFileR (v := v_13) (r := r) (c := c) hT hV_13 hc (f := f) (by omega) hfi) yw_X0_removeFile lk_X7_78 rfl (congrArg Prod.fst (tt_1 hT)) hc_0 rfl dX7_delete_21 rfl (Nat.le_of_ble_eq_true rfl) (by decide) ⟨Nat.le_refl _, Nat.le_refl _⟩ (fun r_21 v_21 p_21 => ?_)
  obtain ⟨rfl, hW_21, ho_21⟩ := p_21
  refine M.to (pc := 24) (st2 := [vI (dlV r f)]) (v2 := v_21) ?_ rfl rfl rfl
  exact M_iretP (pc := 24) C rfl dX7_delete_24 ⟨rfl, hW_21, (hH_13.same (fun a h1 h2 => ho_21 a (Or.inr h1))).mono (by omega), fun a ha => (ho_21 a (Or.inr (by omega))).trans (hf_13 a (Or.inr (by omega)))⟩
theorem c_X7_spoil {N : Nat} {T : Ty} {r P : Nat → Int} {c : Int} {s : Nat} {b : Nat} {v : Ct} (hT : TT T) (hV : DV v 1 r c) (hHV : HVr v P s c) (hc : c < 1000000) (hb : b < 24) (h3 : r (3 + b) ≠ 3) : RunsP mX7_spoil 3 0 0 [vR 0, vI ((b : Nat) : Int)] N T v N T (fun r1 v1 => r1 = some (vI (spV r ((b : Nat) : Int) 10)) ∧ DV v1 1 (rs (spN r ((b : Nat) : Int) 10) (3 + b) 3) c ∧ HVr v1 (svP P r s) (svN s) c ∧ fr v v1) := by
  have hH : DR (v 2) (v 3) (v 4) (v 5) (v 6) (v 7) (v 8) (v 9) r := hV.1
  have hC : CNT (v 1) (v 9) r c := hV.2
  have hD := hH.DI
  have hk := hH.kind hb
  refine RunsP.of (by decide) (Nat.le_of_ble_eq_true rfl) fun κ C => ?_
  refine M_iload_n (pc := 0) C dX7_spoil_0 rfl ?_
  refine A_cSv (pc := 1) C (c_X7_checkBlock hT (b := b) (by omega)) yw_X7_checkBlock lk_X7_81 rfl dX7_spoil_1 rfl (Nat.le_of_ble_eq_true rfl) (by decide) ⟨Nat.le_refl _, Nat.le_refl _⟩ ?_
  refine M_aload_n (pc := 4) C dX7_spoil_4 rfl (by decide) ?_
  refine A_getR (pc := 5) C fl_X7_12 rfl (a := 0) (j := 1) rfl (tt_0 hT) rfl dX7_spoil_5 ?_
  refine M_iload_n (pc := 8) C dX7_spoil_8 rfl ?_
  refine A_cV (pc := 9) C (x := vI (v 2 b)) (a := 1) (c := 0) (c_X0_kindOf_n hT (b := b) (by omega)) yw_X0_kindOf lk_X7_84 rfl (congrArg Prod.fst (tt_1 hT)) hc_0 rfl dX7_spoil_9 rfl (Nat.le_of_ble_eq_true rfl) (by decide) ⟨Nat.le_refl _, Nat.le_refl _⟩ ?_
  refine M_rd (pc := 12) C 2 b (fun (r_9_0 : i32 (v 2 b)) => ?_)
  refine M_iconst (pc := 12) C dX7_spoil_12 ?_
  refine M_icmp_ne (pc := 13) C (tgt := 26) (by omega) (by omega) dX7_spoil_13 (by decide) (fun h_13 => ?_) (fun h_13 => ?_)
  · refine M_aload_n (pc := 26) C dX7_spoil_26 rfl (by decide) ?_
    refine A_getR (pc := 27) C fl_X7_19 rfl (a := 0) (j := 10) rfl (tt_0 hT) rfl dX7_spoil_27 ?_
    refine M_aload_n (pc := 30) C dX7_spoil_30 rfl (by decide) ?_
    refine A_getR (pc := 31) C fl_X7_12 rfl (a := 0) (j := 1) rfl (tt_0 hT) rfl dX7_spoil_31 ?_
    refine A_pV (pc := 34) C (a := 10) (c := 2) (c_X2_storeR (v := v) (r := r) (P := P) (c := c) (s := s) hT hHV hV) yw_X2_store lk_X7_59 rfl (congrArg Prod.fst (tt_10 hT)) hc_2 rfl dX7_spoil_34 rfl (Nat.le_of_ble_eq_true rfl) (by decide) ⟨Nat.le_refl _, Nat.le_refl _⟩ (fun r_34 v_34 p_34 => ?_)
    obtain ⟨rfl, hH_34, hf_34⟩ := p_34
    refine M.to (pc := 37) (st2 := []) (v2 := v_34) ?_ rfl rfl rfl
    have hV_34 : DV v_34 1 r c := hV.same (fun k hk => hf_34 _ (Or.inl (by omega))) (fun _ _ => rfl)
    refine M_aload_n (pc := 37) C dX7_spoil_37 rfl (by decide) ?_
    refine A_getR (pc := 38) C fl_X7_12 rfl (a := 0) (j := 1) rfl (tt_0 hT) rfl dX7_spoil_38 ?_
    refine M_iload_n (pc := 41) C dX7_spoil_41 rfl ?_
    refine A_pV (pc := 42) C (a := 1) (c := 0) (c_X0_turnBadR (v := v_34) (r := r) (c := c) hT hV_34 (b := b) (by omega)) yw_X0_turnBad lk_X7_94 rfl (congrArg Prod.fst (tt_1 hT)) hc_0 rfl dX7_spoil_42 rfl (Nat.le_of_ble_eq_true rfl) (by decide) ⟨Nat.le_refl _, Nat.le_refl _⟩ (fun r_42 v_42 p_42 => ?_)
    obtain ⟨rfl, hW_42, ho_42⟩ := p_42
    refine M.to (pc := 45) (st2 := [vI (spV r ((b : Nat) : Int) 10)]) (v2 := v_42) ?_ rfl rfl rfl
    exact M_iretP (pc := 45) C rfl dX7_spoil_45 ⟨rfl, hW_42, (hH_34.same (fun a h1 h2 => ho_42 a (Or.inr h1))), fun a ha => (ho_42 a (Or.inr (by omega))).trans (hf_34 a (Or.inr (by omega)))⟩
  · exfalso
    omega
theorem c_X7_set {N : Nat} {T : Ty} {r P : Nat → Int} {c : Int} {s : Nat} {x : Int} {v : Ct} (hT : TT T) (hV : DV v 1 r c) (hHV : HVr v P s c) (hc : c < 1000000) (hx : x = 0 ∨ x = 1) : RunsP mX7_set 2 0 0 [vR 0, vI x] N T v N T (fun r1 v1 => r1 = some (vI (r 2)) ∧ DV v1 1 (rs r 2 x) c ∧ HVr v1 (svP P r s) (svN s) c ∧ fr v v1) := by
  have hH : DR (v 2) (v 3) (v 4) (v 5) (v 6) (v 7) (v 8) (v 9) r := hV.1
  have hC : CNT (v 1) (v 9) r c := hV.2
  have hD := hH.DI
  refine RunsP.of (by decide) (Nat.le_of_ble_eq_true rfl) fun κ C => ?_
  refine M_iload_n (pc := 0) C dX7_set_0 rfl ?_
  refine M_iconst (pc := 1) C dX7_set_1 ?_
  refine M_iconst (pc := 2) C dX7_set_2 ?_
  refine A_cSv (pc := 3) C (c_X7_checkArgument hT (x := x) (a := 0) (b := 1) (by omega) (by omega) (by omega) (by omega)) yw_X7_checkArgument lk_X7_55 rfl dX7_set_3 rfl (Nat.le_of_ble_eq_true rfl) (by decide) ⟨Nat.le_refl _, Nat.le_refl _⟩ ?_
  refine M_aload_n (pc := 6) C dX7_set_6 rfl (by decide) ?_
  refine A_getR (pc := 7) C fl_X7_19 rfl (a := 0) (j := 10) rfl (tt_0 hT) rfl dX7_set_7 ?_
  refine M_aload_n (pc := 10) C dX7_set_10 rfl (by decide) ?_
  refine A_getR (pc := 11) C fl_X7_12 rfl (a := 0) (j := 1) rfl (tt_0 hT) rfl dX7_set_11 ?_
  refine A_pV (pc := 14) C (a := 10) (c := 2) (c_X2_storeR (v := v) (r := r) (P := P) (c := c) (s := s) hT hHV hV) yw_X2_store lk_X7_59 rfl (congrArg Prod.fst (tt_10 hT)) hc_2 rfl dX7_set_14 rfl (Nat.le_of_ble_eq_true rfl) (by decide) ⟨Nat.le_refl _, Nat.le_refl _⟩ (fun r_14 v_14 p_14 => ?_)
  obtain ⟨rfl, hH_14, hf_14⟩ := p_14
  refine M.to (pc := 17) (st2 := []) (v2 := v_14) ?_ rfl rfl rfl
  have hV_14 : DV v_14 1 r c := hV.same (fun k hk => hf_14 _ (Or.inl (by omega))) (fun _ _ => rfl)
  refine M_aload_n (pc := 17) C dX7_set_17 rfl (by decide) ?_
  refine A_getR (pc := 18) C fl_X7_12 rfl (a := 0) (j := 1) rfl (tt_0 hT) rfl dX7_set_18 ?_
  refine A_getI (pc := 21) C fl_X7_118 rfl (a := 1) rfl (tt_1 hT) dX7_set_21 (fun (r_21 : i32 (v_14 1 10)) => ?_)
  refine M_istore_n (pc := 24) C dX7_set_24 (by decide) ?_
  refine M_aload_n (pc := 25) C dX7_set_25 rfl (by decide) ?_
  refine A_getR (pc := 26) C fl_X7_12 rfl (a := 0) (j := 1) rfl (tt_0 hT) rfl dX7_set_26 ?_
  refine M_iload_n (pc := 29) C dX7_set_29 rfl ?_
  refine M.to (st2 := [vI x, vR 1]) ?_ rfl rfl rfl
  refine A_putI (pc := 30) C fl_X7_118 rfl (by decide) (a := 1) rfl (tt_1 hT) (by omega) dX7_set_30 ?_
  refine M_iload_n (pc := 33) C dX7_set_33 rfl ?_
  exact M_iretP (pc := 34) C rfl dX7_set_34 ⟨by rw [hV_14.2.2.2.1], hV_14.set hx, hH_14.same (fun a h1 h2 => by funext q; rw [up_ne (by omega)]), fun a ha => (show up v_14 1 10 x a = v a by funext q; rw [up_ne (by omega), hf_14 a (Or.inr (by omega))])⟩
