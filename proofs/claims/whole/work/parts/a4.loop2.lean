/-! the law: more orders with handlers -/
theorem L_goBack {κ : KX} {nm : String} {d mc ms N q i len : Nat} {T : Ty} {v : Ct} {f : Nat → Int} {c : Int} {k n : Nat} {Q : State → Prop} {e5 e6 e7 e8 : Option MV} (C : CX κ (mLn nm) d mc ms) (hd : 40 ≤ d) (hA : ARG κ q len f) (hl : len ≤ 1536) (hi : i + 2 < len) (h : LI N T v c) (hc : c < 900000) (hN : N < 1000000000) (hk : k + 10 ≤ mc ∧ n + 139 ≤ ms) (kk : NX κ q i c k n Q) : M κ N T 771 (LL q i e5 e6 e7 e8) [] v k n Q := by
  have hT := h.1
  refine M_aload_n (pc := 771) C dL_law_771 rfl (by decide) ?_
  refine M_aloadA_n (pc := 772) C dL_law_772 rfl ?_
  refine M_iload (pc := 773) C dL_law_773 rfl ?_
  refine M_iconst (pc := 775) C dL_law_775 ?_
  refine M_iadd (pc := 776) C dL_law_776 ?_
  refine M_ialdA (pc := 777) C (g := i + 1) hA (by omega) (by omega) (by omega) dL_law_777 (fun r_777 => ?_)
  refine M_aload_n (pc := 778) C dL_law_778 rfl (by decide) ?_
  obtain ⟨code, dd, hdd, hR⟩ := p_goBack h r_777 hc
  refine M_callE (pc := 779) C hR ye_goBack ml_LL_129 rfl dL_law_779 rfl (by decide) (by omega) ⟨by omega, by omega⟩ (fun r1 N1 T1 v1 hp => ?_)
  obtain ⟨⟨rfl, h0, h2⟩, hT1, hN1, D, hD, hR2⟩ := hp
  refine M_istore (pc := 782) C dL_law_782 (Nat.le_of_ble_eq_true rfl) ?_
  refine M_aload_n (pc := 784) C dL_law_784 rfl (by decide) ?_
  refine M_aloadA_n (pc := 785) C dL_law_785 rfl ?_
  refine M_iload (pc := 786) C dL_law_786 rfl ?_
  refine M_iconst (pc := 788) C dL_law_788 ?_
  refine M_iadd (pc := 789) C dL_law_789 ?_
  refine M_ialdA (pc := 790) C (g := i + 1) hA (by omega) (by omega) (by omega) dL_law_790 (fun r_790 => ?_)
  refine A_pV (pc := 791) C (a := 84) (c := 8) hR2 yw_X8_goBack lk_L_131 rfl (congrArg Prod.fst (tt_84 hT1)) hc_8 rfl dL_law_791 rfl (by decide) (by omega) ⟨by omega, by omega⟩ (fun r3 v3 hp => ?_)
  obtain ⟨z, rfl, w1, w2, w3⟩ := hp
  refine M_wr (pc := 794) ?_
  refine M_istore (pc := 794) C dL_law_794 (Nat.le_of_ble_eq_true rfl) ?_
  refine M_aload_n (pc := 796) C dL_law_796 rfl (by decide) ?_
  refine A_cV (pc := 797) C (a := 84) (c := 8) (c_X8_thrown hT1) yw_X8_thrown lk_L_85 rfl (congrArg Prod.fst (tt_84 hT1)) hc_8 rfl dL_law_797 rfl (by decide) (by omega) ⟨by omega, by omega⟩ ?_
  refine M_iload (pc := 800) C dL_law_800 rfl ?_
  refine M_icmp_eq (pc := 802) C (tgt := 807) (by rw [w1]; omega) (by omega) dL_law_802 (by decide) (fun _ => ?_) (fun qq => absurd w1 qq)
  refine M_iload (pc := 807) C dL_law_807 rfl ?_
  have fin : M κ N1 T1 1405 (LL q i (some (vI code)) (some (vI (wr z))) e7 e8) [] v3 (k + 1) (n + 6) Q := kk N1 T1 v3 _ _ _ _ _ _ (w3.up (by omega)) (by omega) (by omega)
  refine M_if_ne (pc := 809) C (tgt := 824) (by omega) dL_law_809 (by decide) (fun hne => M_goto (pc := 824) C (tgt := 1405) dL_law_824 (by decide) fin) (fun hz => ?_)
  refine M_aload_n (pc := 812) C dL_law_812 rfl (by decide) ?_
  refine M_iconst (pc := 813) C dL_law_813 ?_
  refine A_lald (pc := 814) C (a := 95) (q := 0) rfl (tt_95 hT1) (by decide) rfl (by decide) dL_law_814 (fun _ => ?_)
  refine M_iload (pc := 815) C dL_law_815 rfl ?_
  refine M_i2l (pc := 817) C (wr_i32 _) dL_law_817 ?_
  refine M_lcmpv (pc := 818) C (z := 0) (by rw [w2 hz]; exact lcmp_self _) dL_law_818 ?_
  exact M_if_eq (pc := 819) C (tgt := 824) (by decide) dL_law_819 (by decide) (fun _ => M_goto (pc := 824) C (tgt := 1405) dL_law_824 (by decide) fin) (fun qq => absurd rfl qq)
theorem L_undo {κ : KX} {nm : String} {d mc ms N q i len : Nat} {T : Ty} {v : Ct} {f : Nat → Int} {c : Int} {k n : Nat} {Q : State → Prop} {e5 e6 e7 e8 : Option MV} (C : CX κ (mLn nm) d mc ms) (hd : 40 ≤ d) (hA : ARG κ q len f) (hl : len ≤ 1536) (hi : i + 2 < len) (h : LI N T v c) (hc : c < 900000) (hN : N < 1000000000) (hk : k + 10 ≤ mc ∧ n + 139 ≤ ms) (kk : NX κ q i c k n Q) : M κ N T 827 (LL q i e5 e6 e7 e8) [] v k n Q := by
  have hT := h.1
  refine M_aload_n (pc := 827) C dL_law_827 rfl (by decide) ?_
  refine M_aload_n (pc := 828) C dL_law_828 rfl (by decide) ?_
  obtain ⟨code, dd, hdd, hR⟩ := p_undo h hc
  refine M_callE (pc := 829) C hR ye_undo ml_LL_132 rfl dL_law_829 rfl (by decide) (by omega) ⟨by omega, by omega⟩ (fun r1 N1 T1 v1 hp => ?_)
  obtain ⟨⟨rfl, h0, h2⟩, hT1, hN1, D, hD, hR2⟩ := hp
  refine M_istore (pc := 832) C dL_law_832 (Nat.le_of_ble_eq_true rfl) ?_
  refine M_aload_n (pc := 834) C dL_law_834 rfl (by decide) ?_
  refine A_pV (pc := 835) C (a := 84) (c := 8) hR2 yw_X8_undo lk_L_134 rfl (congrArg Prod.fst (tt_84 hT1)) hc_8 rfl dL_law_835 rfl (by decide) (by omega) ⟨by omega, by omega⟩ (fun r3 v3 hp => ?_)
  obtain ⟨z, rfl, w1, w2, w3⟩ := hp
  refine M_wr (pc := 838) ?_
  refine M_istore (pc := 838) C dL_law_838 (Nat.le_of_ble_eq_true rfl) ?_
  refine M_aload_n (pc := 840) C dL_law_840 rfl (by decide) ?_
  refine A_cV (pc := 841) C (a := 84) (c := 8) (c_X8_thrown hT1) yw_X8_thrown lk_L_85 rfl (congrArg Prod.fst (tt_84 hT1)) hc_8 rfl dL_law_841 rfl (by decide) (by omega) ⟨by omega, by omega⟩ ?_
  refine M_iload (pc := 844) C dL_law_844 rfl ?_
  refine M_icmp_eq (pc := 846) C (tgt := 851) (by rw [w1]; omega) (by omega) dL_law_846 (by decide) (fun _ => ?_) (fun qq => absurd w1 qq)
  refine M_iload (pc := 851) C dL_law_851 rfl ?_
  have fin : M κ N1 T1 1405 (LL q i (some (vI code)) (some (vI (wr z))) e7 e8) [] v3 (k + 1) (n + 6) Q := kk N1 T1 v3 _ _ _ _ _ _ (w3.up (by omega)) (by omega) (by omega)
  refine M_if_ne (pc := 853) C (tgt := 868) (by omega) dL_law_853 (by decide) (fun hne => M_goto (pc := 868) C (tgt := 1405) dL_law_868 (by decide) fin) (fun hz => ?_)
  refine M_aload_n (pc := 856) C dL_law_856 rfl (by decide) ?_
  refine M_iconst (pc := 857) C dL_law_857 ?_
  refine A_lald (pc := 858) C (a := 95) (q := 0) rfl (tt_95 hT1) (by decide) rfl (by decide) dL_law_858 (fun _ => ?_)
  refine M_iload (pc := 859) C dL_law_859 rfl ?_
  refine M_i2l (pc := 861) C (wr_i32 _) dL_law_861 ?_
  refine M_lcmpv (pc := 862) C (z := 0) (by rw [w2 hz]; exact lcmp_self _) dL_law_862 ?_
  exact M_if_eq (pc := 863) C (tgt := 868) (by decide) dL_law_863 (by decide) (fun _ => M_goto (pc := 868) C (tgt := 1405) dL_law_868 (by decide) fin) (fun qq => absurd rfl qq)
theorem L_fileOf {κ : KX} {nm : String} {d mc ms N q i len : Nat} {T : Ty} {v : Ct} {f : Nat → Int} {c : Int} {k n : Nat} {Q : State → Prop} {e5 e6 e7 e8 : Option MV} (C : CX κ (mLn nm) d mc ms) (hd : 40 ≤ d) (hA : ARG κ q len f) (hl : len ≤ 1536) (hi : i + 2 < len) (h : LI N T v c) (hc : c < 900000) (hN : N < 1000000000) (hk : k + 10 ≤ mc ∧ n + 139 ≤ ms) (kk : NX κ q i c k n Q) : M κ N T 871 (LL q i e5 e6 e7 e8) [] v k n Q := by
  have hT := h.1
  refine M_aload_n (pc := 871) C dL_law_871 rfl (by decide) ?_
  refine M_aloadA_n (pc := 872) C dL_law_872 rfl ?_
  refine M_iload (pc := 873) C dL_law_873 rfl ?_
  refine M_iconst (pc := 875) C dL_law_875 ?_
  refine M_iadd (pc := 876) C dL_law_876 ?_
  refine M_ialdA (pc := 877) C (g := i + 1) hA (by omega) (by omega) (by omega) dL_law_877 (fun r_877 => ?_)
  refine M_aloadA_n (pc := 878) C dL_law_878 rfl ?_
  refine M_iload (pc := 879) C dL_law_879 rfl ?_
  refine M_iconst (pc := 881) C dL_law_881 ?_
  refine M_iadd (pc := 882) C dL_law_882 ?_
  refine M_ialdA (pc := 883) C (g := i + 2) hA (by omega) (by omega) (by omega) dL_law_883 (fun r_883 => ?_)
  refine M_aload_n (pc := 884) C dL_law_884 rfl (by decide) ?_
  obtain ⟨code, dd, hdd, hR⟩ := p_fileOf h r_877 r_883
  refine M_callE (pc := 885) C hR ye_fileOf ml_LL_135 rfl dL_law_885 rfl (by decide) (by omega) ⟨by omega, by omega⟩ (fun r1 N1 T1 v1 hp => ?_)
  obtain ⟨⟨rfl, h0, h2⟩, hT1, hN1, D, hD, hR2⟩ := hp
  refine M_istore (pc := 888) C dL_law_888 (Nat.le_of_ble_eq_true rfl) ?_
  refine M_aload_n (pc := 890) C dL_law_890 rfl (by decide) ?_
  refine M_aloadA_n (pc := 891) C dL_law_891 rfl ?_
  refine M_iload (pc := 892) C dL_law_892 rfl ?_
  refine M_iconst (pc := 894) C dL_law_894 ?_
  refine M_iadd (pc := 895) C dL_law_895 ?_
  refine M_ialdA (pc := 896) C (g := i + 1) hA (by omega) (by omega) (by omega) dL_law_896 (fun r_896 => ?_)
  refine M_aloadA_n (pc := 897) C dL_law_897 rfl ?_
  refine M_iload (pc := 898) C dL_law_898 rfl ?_
  refine M_iconst (pc := 900) C dL_law_900 ?_
  refine M_iadd (pc := 901) C dL_law_901 ?_
  refine M_ialdA (pc := 902) C (g := i + 2) hA (by omega) (by omega) (by omega) dL_law_902 (fun r_902 => ?_)
  refine A_pV (pc := 903) C (a := 84) (c := 8) hR2 yw_X8_fileOf lk_L_137 rfl (congrArg Prod.fst (tt_84 hT1)) hc_8 rfl dL_law_903 rfl (by decide) (by omega) ⟨by omega, by omega⟩ (fun r3 v3 hp => ?_)
  obtain ⟨z, rfl, w1, w2, w3⟩ := hp
  refine M_wr (pc := 906) ?_
  refine M_istore (pc := 906) C dL_law_906 (Nat.le_of_ble_eq_true rfl) ?_
  refine M_aload_n (pc := 908) C dL_law_908 rfl (by decide) ?_
  refine A_cV (pc := 909) C (a := 84) (c := 8) (c_X8_thrown hT1) yw_X8_thrown lk_L_85 rfl (congrArg Prod.fst (tt_84 hT1)) hc_8 rfl dL_law_909 rfl (by decide) (by omega) ⟨by omega, by omega⟩ ?_
  refine M_iload (pc := 912) C dL_law_912 rfl ?_
  refine M_icmp_eq (pc := 914) C (tgt := 919) (by rw [w1]; omega) (by omega) dL_law_914 (by decide) (fun _ => ?_) (fun qq => absurd w1 qq)
  refine M_iload (pc := 919) C dL_law_919 rfl ?_
  have fin : M κ N1 T1 1405 (LL q i (some (vI code)) (some (vI (wr z))) e7 e8) [] v3 (k + 1) (n + 6) Q := kk N1 T1 v3 _ _ _ _ _ _ (w3.up (by omega)) (by omega) (by omega)
  refine M_if_ne (pc := 921) C (tgt := 936) (by omega) dL_law_921 (by decide) (fun hne => M_goto (pc := 936) C (tgt := 1405) dL_law_936 (by decide) fin) (fun hz => ?_)
  refine M_aload_n (pc := 924) C dL_law_924 rfl (by decide) ?_
  refine M_iconst (pc := 925) C dL_law_925 ?_
  refine A_lald (pc := 926) C (a := 95) (q := 0) rfl (tt_95 hT1) (by decide) rfl (by decide) dL_law_926 (fun _ => ?_)
  refine M_iload (pc := 927) C dL_law_927 rfl ?_
  refine M_i2l (pc := 929) C (wr_i32 _) dL_law_929 ?_
  refine M_lcmpv (pc := 930) C (z := 0) (by rw [w2 hz]; exact lcmp_self _) dL_law_930 ?_
  exact M_if_eq (pc := 931) C (tgt := 936) (by decide) dL_law_931 (by decide) (fun _ => M_goto (pc := 936) C (tgt := 1405) dL_law_936 (by decide) fin) (fun qq => absurd rfl qq)
theorem L_place {κ : KX} {nm : String} {d mc ms N q i len : Nat} {T : Ty} {v : Ct} {f : Nat → Int} {c : Int} {k n : Nat} {Q : State → Prop} {e5 e6 e7 e8 : Option MV} (C : CX κ (mLn nm) d mc ms) (hd : 40 ≤ d) (hA : ARG κ q len f) (hl : len ≤ 1536) (hi : i + 2 < len) (h : LI N T v c) (hc : c < 900000) (hN : N < 1000000000) (hk : k + 10 ≤ mc ∧ n + 139 ≤ ms) (kk : NX κ q i c k n Q) : M κ N T 939 (LL q i e5 e6 e7 e8) [] v k n Q := by
  have hT := h.1
  refine M_aload_n (pc := 939) C dL_law_939 rfl (by decide) ?_
  refine M_aloadA_n (pc := 940) C dL_law_940 rfl ?_
  refine M_iload (pc := 941) C dL_law_941 rfl ?_
  refine M_iconst (pc := 943) C dL_law_943 ?_
  refine M_iadd (pc := 944) C dL_law_944 ?_
  refine M_ialdA (pc := 945) C (g := i + 1) hA (by omega) (by omega) (by omega) dL_law_945 (fun r_945 => ?_)
  refine M_aloadA_n (pc := 946) C dL_law_946 rfl ?_
  refine M_iload (pc := 947) C dL_law_947 rfl ?_
  refine M_iconst (pc := 949) C dL_law_949 ?_
  refine M_iadd (pc := 950) C dL_law_950 ?_
  refine M_ialdA (pc := 951) C (g := i + 2) hA (by omega) (by omega) (by omega) dL_law_951 (fun r_951 => ?_)
  refine M_aload_n (pc := 952) C dL_law_952 rfl (by decide) ?_
  obtain ⟨code, dd, hdd, hR⟩ := p_place h r_945 r_951
  refine M_callE (pc := 953) C hR ye_place ml_LL_138 rfl dL_law_953 rfl (by decide) (by omega) ⟨by omega, by omega⟩ (fun r1 N1 T1 v1 hp => ?_)
  obtain ⟨⟨rfl, h0, h2⟩, hT1, hN1, D, hD, hR2⟩ := hp
  refine M_istore (pc := 956) C dL_law_956 (Nat.le_of_ble_eq_true rfl) ?_
  refine M_aload_n (pc := 958) C dL_law_958 rfl (by decide) ?_
  refine M_aloadA_n (pc := 959) C dL_law_959 rfl ?_
  refine M_iload (pc := 960) C dL_law_960 rfl ?_
  refine M_iconst (pc := 962) C dL_law_962 ?_
  refine M_iadd (pc := 963) C dL_law_963 ?_
  refine M_ialdA (pc := 964) C (g := i + 1) hA (by omega) (by omega) (by omega) dL_law_964 (fun r_964 => ?_)
  refine M_aloadA_n (pc := 965) C dL_law_965 rfl ?_
  refine M_iload (pc := 966) C dL_law_966 rfl ?_
  refine M_iconst (pc := 968) C dL_law_968 ?_
  refine M_iadd (pc := 969) C dL_law_969 ?_
  refine M_ialdA (pc := 970) C (g := i + 2) hA (by omega) (by omega) (by omega) dL_law_970 (fun r_970 => ?_)
  refine A_pV (pc := 971) C (a := 84) (c := 8) hR2 yw_X8_place lk_L_140 rfl (congrArg Prod.fst (tt_84 hT1)) hc_8 rfl dL_law_971 rfl (by decide) (by omega) ⟨by omega, by omega⟩ (fun r3 v3 hp => ?_)
  obtain ⟨z, rfl, w1, w2, w3⟩ := hp
  refine M_wr (pc := 974) ?_
  refine M_istore (pc := 974) C dL_law_974 (Nat.le_of_ble_eq_true rfl) ?_
  refine M_aload_n (pc := 976) C dL_law_976 rfl (by decide) ?_
  refine A_cV (pc := 977) C (a := 84) (c := 8) (c_X8_thrown hT1) yw_X8_thrown lk_L_85 rfl (congrArg Prod.fst (tt_84 hT1)) hc_8 rfl dL_law_977 rfl (by decide) (by omega) ⟨by omega, by omega⟩ ?_
  refine M_iload (pc := 980) C dL_law_980 rfl ?_
  refine M_icmp_eq (pc := 982) C (tgt := 987) (by rw [w1]; omega) (by omega) dL_law_982 (by decide) (fun _ => ?_) (fun qq => absurd w1 qq)
  refine M_iload (pc := 987) C dL_law_987 rfl ?_
  have fin : M κ N1 T1 1405 (LL q i (some (vI code)) (some (vI (wr z))) e7 e8) [] v3 (k + 1) (n + 6) Q := kk N1 T1 v3 _ _ _ _ _ _ (w3.up (by omega)) (by omega) (by omega)
  refine M_if_ne (pc := 989) C (tgt := 1004) (by omega) dL_law_989 (by decide) (fun hne => M_goto (pc := 1004) C (tgt := 1405) dL_law_1004 (by decide) fin) (fun hz => ?_)
  refine M_aload_n (pc := 992) C dL_law_992 rfl (by decide) ?_
  refine M_iconst (pc := 993) C dL_law_993 ?_
  refine A_lald (pc := 994) C (a := 95) (q := 0) rfl (tt_95 hT1) (by decide) rfl (by decide) dL_law_994 (fun _ => ?_)
  refine M_iload (pc := 995) C dL_law_995 rfl ?_
  refine M_i2l (pc := 997) C (wr_i32 _) dL_law_997 ?_
  refine M_lcmpv (pc := 998) C (z := 0) (by rw [w2 hz]; exact lcmp_self _) dL_law_998 ?_
  exact M_if_eq (pc := 999) C (tgt := 1004) (by decide) dL_law_999 (by decide) (fun _ => M_goto (pc := 1004) C (tgt := 1405) dL_law_1004 (by decide) fin) (fun qq => absurd rfl qq)
theorem L_blockOf {κ : KX} {nm : String} {d mc ms N q i len : Nat} {T : Ty} {v : Ct} {f : Nat → Int} {c : Int} {k n : Nat} {Q : State → Prop} {e5 e6 e7 e8 : Option MV} (C : CX κ (mLn nm) d mc ms) (hd : 40 ≤ d) (hA : ARG κ q len f) (hl : len ≤ 1536) (hi : i + 2 < len) (h : LI N T v c) (hc : c < 900000) (hN : N < 1000000000) (hk : k + 10 ≤ mc ∧ n + 139 ≤ ms) (kk : NX κ q i c k n Q) : M κ N T 1007 (LL q i e5 e6 e7 e8) [] v k n Q := by
  have hT := h.1
  refine M_aload_n (pc := 1007) C dL_law_1007 rfl (by decide) ?_
  refine M_aloadA_n (pc := 1008) C dL_law_1008 rfl ?_
  refine M_iload (pc := 1009) C dL_law_1009 rfl ?_
  refine M_iconst (pc := 1011) C dL_law_1011 ?_
  refine M_iadd (pc := 1012) C dL_law_1012 ?_
  refine M_ialdA (pc := 1013) C (g := i + 1) hA (by omega) (by omega) (by omega) dL_law_1013 (fun r_1013 => ?_)
  refine M_aloadA_n (pc := 1014) C dL_law_1014 rfl ?_
  refine M_iload (pc := 1015) C dL_law_1015 rfl ?_
  refine M_iconst (pc := 1017) C dL_law_1017 ?_
  refine M_iadd (pc := 1018) C dL_law_1018 ?_
  refine M_ialdA (pc := 1019) C (g := i + 2) hA (by omega) (by omega) (by omega) dL_law_1019 (fun r_1019 => ?_)
  refine M_aload_n (pc := 1020) C dL_law_1020 rfl (by decide) ?_
  obtain ⟨code, dd, hdd, hR⟩ := p_blockOf h r_1013 r_1019
  refine M_callE (pc := 1021) C hR ye_blockOf ml_LL_141 rfl dL_law_1021 rfl (by decide) (by omega) ⟨by omega, by omega⟩ (fun r1 N1 T1 v1 hp => ?_)
  obtain ⟨⟨rfl, h0, h2⟩, hT1, hN1, D, hD, hR2⟩ := hp
  refine M_istore (pc := 1024) C dL_law_1024 (Nat.le_of_ble_eq_true rfl) ?_
  refine M_aload_n (pc := 1026) C dL_law_1026 rfl (by decide) ?_
  refine M_aloadA_n (pc := 1027) C dL_law_1027 rfl ?_
  refine M_iload (pc := 1028) C dL_law_1028 rfl ?_
  refine M_iconst (pc := 1030) C dL_law_1030 ?_
  refine M_iadd (pc := 1031) C dL_law_1031 ?_
  refine M_ialdA (pc := 1032) C (g := i + 1) hA (by omega) (by omega) (by omega) dL_law_1032 (fun r_1032 => ?_)
  refine M_aloadA_n (pc := 1033) C dL_law_1033 rfl ?_
  refine M_iload (pc := 1034) C dL_law_1034 rfl ?_
  refine M_iconst (pc := 1036) C dL_law_1036 ?_
  refine M_iadd (pc := 1037) C dL_law_1037 ?_
  refine M_ialdA (pc := 1038) C (g := i + 2) hA (by omega) (by omega) (by omega) dL_law_1038 (fun r_1038 => ?_)
  refine A_pV (pc := 1039) C (a := 84) (c := 8) hR2 yw_X8_blockOf lk_L_143 rfl (congrArg Prod.fst (tt_84 hT1)) hc_8 rfl dL_law_1039 rfl (by decide) (by omega) ⟨by omega, by omega⟩ (fun r3 v3 hp => ?_)
  obtain ⟨z, rfl, w1, w2, w3⟩ := hp
  refine M_wr (pc := 1042) ?_
  refine M_istore (pc := 1042) C dL_law_1042 (Nat.le_of_ble_eq_true rfl) ?_
  refine M_aload_n (pc := 1044) C dL_law_1044 rfl (by decide) ?_
  refine A_cV (pc := 1045) C (a := 84) (c := 8) (c_X8_thrown hT1) yw_X8_thrown lk_L_85 rfl (congrArg Prod.fst (tt_84 hT1)) hc_8 rfl dL_law_1045 rfl (by decide) (by omega) ⟨by omega, by omega⟩ ?_
  refine M_iload (pc := 1048) C dL_law_1048 rfl ?_
  refine M_icmp_eq (pc := 1050) C (tgt := 1055) (by rw [w1]; omega) (by omega) dL_law_1050 (by decide) (fun _ => ?_) (fun qq => absurd w1 qq)
  refine M_iload (pc := 1055) C dL_law_1055 rfl ?_
  have fin : M κ N1 T1 1405 (LL q i (some (vI code)) (some (vI (wr z))) e7 e8) [] v3 (k + 1) (n + 6) Q := kk N1 T1 v3 _ _ _ _ _ _ (w3.up (by omega)) (by omega) (by omega)
  refine M_if_ne (pc := 1057) C (tgt := 1072) (by omega) dL_law_1057 (by decide) (fun hne => M_goto (pc := 1072) C (tgt := 1405) dL_law_1072 (by decide) fin) (fun hz => ?_)
  refine M_aload_n (pc := 1060) C dL_law_1060 rfl (by decide) ?_
  refine M_iconst (pc := 1061) C dL_law_1061 ?_
  refine A_lald (pc := 1062) C (a := 95) (q := 0) rfl (tt_95 hT1) (by decide) rfl (by decide) dL_law_1062 (fun _ => ?_)
  refine M_iload (pc := 1063) C dL_law_1063 rfl ?_
  refine M_i2l (pc := 1065) C (wr_i32 _) dL_law_1065 ?_
  refine M_lcmpv (pc := 1066) C (z := 0) (by rw [w2 hz]; exact lcmp_self _) dL_law_1066 ?_
  exact M_if_eq (pc := 1067) C (tgt := 1072) (by decide) dL_law_1067 (by decide) (fun _ => M_goto (pc := 1072) C (tgt := 1405) dL_law_1072 (by decide) fin) (fun qq => absurd rfl qq)
theorem L_count {κ : KX} {nm : String} {d mc ms N q i len : Nat} {T : Ty} {v : Ct} {f : Nat → Int} {c : Int} {k n : Nat} {Q : State → Prop} {e5 e6 e7 e8 : Option MV} (C : CX κ (mLn nm) d mc ms) (hd : 40 ≤ d) (hA : ARG κ q len f) (hl : len ≤ 1536) (hi : i + 2 < len) (h : LI N T v c) (hc : c < 900000) (hN : N < 1000000000) (hk : k + 10 ≤ mc ∧ n + 139 ≤ ms) (kk : NX κ q i c k n Q) : M κ N T 1075 (LL q i e5 e6 e7 e8) [] v k n Q := by
  have hT := h.1
  refine M_aload_n (pc := 1075) C dL_law_1075 rfl (by decide) ?_
  refine M_aloadA_n (pc := 1076) C dL_law_1076 rfl ?_
  refine M_iload (pc := 1077) C dL_law_1077 rfl ?_
  refine M_iconst (pc := 1079) C dL_law_1079 ?_
  refine M_iadd (pc := 1080) C dL_law_1080 ?_
  refine M_ialdA (pc := 1081) C (g := i + 1) hA (by omega) (by omega) (by omega) dL_law_1081 (fun r_1081 => ?_)
  refine M_aload_n (pc := 1082) C dL_law_1082 rfl (by decide) ?_
  obtain ⟨code, dd, hdd, hR⟩ := p_count h r_1081
  refine M_callE (pc := 1083) C hR ye_count ml_LL_144 rfl dL_law_1083 rfl (by decide) (by omega) ⟨by omega, by omega⟩ (fun r1 N1 T1 v1 hp => ?_)
  obtain ⟨⟨rfl, h0, h2⟩, hT1, hN1, D, hD, hR2⟩ := hp
  refine M_istore (pc := 1086) C dL_law_1086 (Nat.le_of_ble_eq_true rfl) ?_
  refine M_aload_n (pc := 1088) C dL_law_1088 rfl (by decide) ?_
  refine M_aloadA_n (pc := 1089) C dL_law_1089 rfl ?_
  refine M_iload (pc := 1090) C dL_law_1090 rfl ?_
  refine M_iconst (pc := 1092) C dL_law_1092 ?_
  refine M_iadd (pc := 1093) C dL_law_1093 ?_
  refine M_ialdA (pc := 1094) C (g := i + 1) hA (by omega) (by omega) (by omega) dL_law_1094 (fun r_1094 => ?_)
  refine A_pV (pc := 1095) C (a := 84) (c := 8) hR2 yw_X8_count lk_L_146 rfl (congrArg Prod.fst (tt_84 hT1)) hc_8 rfl dL_law_1095 rfl (by decide) (by omega) ⟨by omega, by omega⟩ (fun r3 v3 hp => ?_)
  obtain ⟨z, rfl, w1, w2, w3⟩ := hp
  refine M_wr (pc := 1098) ?_
  refine M_istore (pc := 1098) C dL_law_1098 (Nat.le_of_ble_eq_true rfl) ?_
  refine M_aload_n (pc := 1100) C dL_law_1100 rfl (by decide) ?_
  refine A_cV (pc := 1101) C (a := 84) (c := 8) (c_X8_thrown hT1) yw_X8_thrown lk_L_85 rfl (congrArg Prod.fst (tt_84 hT1)) hc_8 rfl dL_law_1101 rfl (by decide) (by omega) ⟨by omega, by omega⟩ ?_
  refine M_iload (pc := 1104) C dL_law_1104 rfl ?_
  refine M_icmp_eq (pc := 1106) C (tgt := 1111) (by rw [w1]; omega) (by omega) dL_law_1106 (by decide) (fun _ => ?_) (fun qq => absurd w1 qq)
  refine M_iload (pc := 1111) C dL_law_1111 rfl ?_
  have fin : M κ N1 T1 1405 (LL q i (some (vI code)) (some (vI (wr z))) e7 e8) [] v3 (k + 1) (n + 6) Q := kk N1 T1 v3 _ _ _ _ _ _ (w3.up (by omega)) (by omega) (by omega)
  refine M_if_ne (pc := 1113) C (tgt := 1128) (by omega) dL_law_1113 (by decide) (fun hne => M_goto (pc := 1128) C (tgt := 1405) dL_law_1128 (by decide) fin) (fun hz => ?_)
  refine M_aload_n (pc := 1116) C dL_law_1116 rfl (by decide) ?_
  refine M_iconst (pc := 1117) C dL_law_1117 ?_
  refine A_lald (pc := 1118) C (a := 95) (q := 0) rfl (tt_95 hT1) (by decide) rfl (by decide) dL_law_1118 (fun _ => ?_)
  refine M_iload (pc := 1119) C dL_law_1119 rfl ?_
  refine M_i2l (pc := 1121) C (wr_i32 _) dL_law_1121 ?_
  refine M_lcmpv (pc := 1122) C (z := 0) (by rw [w2 hz]; exact lcmp_self _) dL_law_1122 ?_
  exact M_if_eq (pc := 1123) C (tgt := 1128) (by decide) dL_law_1123 (by decide) (fun _ => M_goto (pc := 1128) C (tgt := 1405) dL_law_1128 (by decide) fin) (fun qq => absurd rfl qq)
theorem L_ifPlaced {κ : KX} {nm : String} {d mc ms N q i len : Nat} {T : Ty} {v : Ct} {f : Nat → Int} {c : Int} {k n : Nat} {Q : State → Prop} {e5 e6 e7 e8 : Option MV} (C : CX κ (mLn nm) d mc ms) (hd : 40 ≤ d) (hA : ARG κ q len f) (hl : len ≤ 1536) (hi : i + 2 < len) (h : LI N T v c) (hc : c < 900000) (hN : N < 1000000000) (hk : k + 10 ≤ mc ∧ n + 139 ≤ ms) (kk : NX κ q i c k n Q) : M κ N T 1131 (LL q i e5 e6 e7 e8) [] v k n Q := by
  have hT := h.1
  refine M_aload_n (pc := 1131) C dL_law_1131 rfl (by decide) ?_
  refine M_aloadA_n (pc := 1132) C dL_law_1132 rfl ?_
  refine M_iload (pc := 1133) C dL_law_1133 rfl ?_
  refine M_iconst (pc := 1135) C dL_law_1135 ?_
  refine M_iadd (pc := 1136) C dL_law_1136 ?_
  refine M_ialdA (pc := 1137) C (g := i + 1) hA (by omega) (by omega) (by omega) dL_law_1137 (fun r_1137 => ?_)
  refine M_aload_n (pc := 1138) C dL_law_1138 rfl (by decide) ?_
  obtain ⟨code, dd, hdd, hR⟩ := p_ifPlaced h r_1137
  refine M_callE (pc := 1139) C hR ye_ifPlaced ml_LL_147 rfl dL_law_1139 rfl (by decide) (by omega) ⟨by omega, by omega⟩ (fun r1 N1 T1 v1 hp => ?_)
  obtain ⟨⟨rfl, h0, h2⟩, hT1, hN1, D, hD, hR2⟩ := hp
  refine M_istore (pc := 1142) C dL_law_1142 (Nat.le_of_ble_eq_true rfl) ?_
  refine M_aload_n (pc := 1144) C dL_law_1144 rfl (by decide) ?_
  refine M_aloadA_n (pc := 1145) C dL_law_1145 rfl ?_
  refine M_iload (pc := 1146) C dL_law_1146 rfl ?_
  refine M_iconst (pc := 1148) C dL_law_1148 ?_
  refine M_iadd (pc := 1149) C dL_law_1149 ?_
  refine M_ialdA (pc := 1150) C (g := i + 1) hA (by omega) (by omega) (by omega) dL_law_1150 (fun r_1150 => ?_)
  refine A_pV (pc := 1151) C (a := 84) (c := 8) hR2 yw_X8_ifPlaced lk_L_149 rfl (congrArg Prod.fst (tt_84 hT1)) hc_8 rfl dL_law_1151 rfl (by decide) (by omega) ⟨by omega, by omega⟩ (fun r3 v3 hp => ?_)
  obtain ⟨z, rfl, w1, w2, w3⟩ := hp
  refine M_wr (pc := 1154) ?_
  refine M_istore (pc := 1154) C dL_law_1154 (Nat.le_of_ble_eq_true rfl) ?_
  refine M_aload_n (pc := 1156) C dL_law_1156 rfl (by decide) ?_
  refine A_cV (pc := 1157) C (a := 84) (c := 8) (c_X8_thrown hT1) yw_X8_thrown lk_L_85 rfl (congrArg Prod.fst (tt_84 hT1)) hc_8 rfl dL_law_1157 rfl (by decide) (by omega) ⟨by omega, by omega⟩ ?_
  refine M_iload (pc := 1160) C dL_law_1160 rfl ?_
  refine M_icmp_eq (pc := 1162) C (tgt := 1167) (by rw [w1]; omega) (by omega) dL_law_1162 (by decide) (fun _ => ?_) (fun qq => absurd w1 qq)
  refine M_iload (pc := 1167) C dL_law_1167 rfl ?_
  have fin : M κ N1 T1 1405 (LL q i (some (vI code)) (some (vI (wr z))) e7 e8) [] v3 (k + 1) (n + 6) Q := kk N1 T1 v3 _ _ _ _ _ _ (w3.up (by omega)) (by omega) (by omega)
  refine M_if_ne (pc := 1169) C (tgt := 1184) (by omega) dL_law_1169 (by decide) (fun hne => M_goto (pc := 1184) C (tgt := 1405) dL_law_1184 (by decide) fin) (fun hz => ?_)
  refine M_aload_n (pc := 1172) C dL_law_1172 rfl (by decide) ?_
  refine M_iconst (pc := 1173) C dL_law_1173 ?_
  refine A_lald (pc := 1174) C (a := 95) (q := 0) rfl (tt_95 hT1) (by decide) rfl (by decide) dL_law_1174 (fun _ => ?_)
  refine M_iload (pc := 1175) C dL_law_1175 rfl ?_
  refine M_i2l (pc := 1177) C (wr_i32 _) dL_law_1177 ?_
  refine M_lcmpv (pc := 1178) C (z := 0) (by rw [w2 hz]; exact lcmp_self _) dL_law_1178 ?_
  exact M_if_eq (pc := 1179) C (tgt := 1184) (by decide) dL_law_1179 (by decide) (fun _ => M_goto (pc := 1184) C (tgt := 1405) dL_law_1184 (by decide) fin) (fun qq => absurd rfl qq)
theorem L_ifGrown {κ : KX} {nm : String} {d mc ms N q i len : Nat} {T : Ty} {v : Ct} {f : Nat → Int} {c : Int} {k n : Nat} {Q : State → Prop} {e5 e6 e7 e8 : Option MV} (C : CX κ (mLn nm) d mc ms) (hd : 40 ≤ d) (hA : ARG κ q len f) (hl : len ≤ 1536) (hi : i + 2 < len) (h : LI N T v c) (hc : c < 900000) (hN : N < 1000000000) (hk : k + 10 ≤ mc ∧ n + 139 ≤ ms) (kk : NX κ q i c k n Q) : M κ N T 1187 (LL q i e5 e6 e7 e8) [] v k n Q := by
  have hT := h.1
  refine M_aload_n (pc := 1187) C dL_law_1187 rfl (by decide) ?_
  refine M_aloadA_n (pc := 1188) C dL_law_1188 rfl ?_
  refine M_iload (pc := 1189) C dL_law_1189 rfl ?_
  refine M_iconst (pc := 1191) C dL_law_1191 ?_
  refine M_iadd (pc := 1192) C dL_law_1192 ?_
  refine M_ialdA (pc := 1193) C (g := i + 1) hA (by omega) (by omega) (by omega) dL_law_1193 (fun r_1193 => ?_)
  refine M_aloadA_n (pc := 1194) C dL_law_1194 rfl ?_
  refine M_iload (pc := 1195) C dL_law_1195 rfl ?_
  refine M_iconst (pc := 1197) C dL_law_1197 ?_
  refine M_iadd (pc := 1198) C dL_law_1198 ?_
  refine M_ialdA (pc := 1199) C (g := i + 2) hA (by omega) (by omega) (by omega) dL_law_1199 (fun r_1199 => ?_)
  refine M_aload_n (pc := 1200) C dL_law_1200 rfl (by decide) ?_
  obtain ⟨code, dd, hdd, hR⟩ := p_ifGrown h r_1193 r_1199
  refine M_callE (pc := 1201) C hR ye_ifGrown ml_LL_150 rfl dL_law_1201 rfl (by decide) (by omega) ⟨by omega, by omega⟩ (fun r1 N1 T1 v1 hp => ?_)
  obtain ⟨⟨rfl, h0, h2⟩, hT1, hN1, D, hD, hR2⟩ := hp
  refine M_istore (pc := 1204) C dL_law_1204 (Nat.le_of_ble_eq_true rfl) ?_
  refine M_aload_n (pc := 1206) C dL_law_1206 rfl (by decide) ?_
  refine M_aloadA_n (pc := 1207) C dL_law_1207 rfl ?_
  refine M_iload (pc := 1208) C dL_law_1208 rfl ?_
  refine M_iconst (pc := 1210) C dL_law_1210 ?_
  refine M_iadd (pc := 1211) C dL_law_1211 ?_
  refine M_ialdA (pc := 1212) C (g := i + 1) hA (by omega) (by omega) (by omega) dL_law_1212 (fun r_1212 => ?_)
  refine M_aloadA_n (pc := 1213) C dL_law_1213 rfl ?_
  refine M_iload (pc := 1214) C dL_law_1214 rfl ?_
  refine M_iconst (pc := 1216) C dL_law_1216 ?_
  refine M_iadd (pc := 1217) C dL_law_1217 ?_
  refine M_ialdA (pc := 1218) C (g := i + 2) hA (by omega) (by omega) (by omega) dL_law_1218 (fun r_1218 => ?_)
  refine A_pV (pc := 1219) C (a := 84) (c := 8) hR2 yw_X8_ifGrown lk_L_152 rfl (congrArg Prod.fst (tt_84 hT1)) hc_8 rfl dL_law_1219 rfl (by decide) (by omega) ⟨by omega, by omega⟩ (fun r3 v3 hp => ?_)
  obtain ⟨z, rfl, w1, w2, w3⟩ := hp
  refine M_wr (pc := 1222) ?_
  refine M_istore (pc := 1222) C dL_law_1222 (Nat.le_of_ble_eq_true rfl) ?_
  refine M_aload_n (pc := 1224) C dL_law_1224 rfl (by decide) ?_
  refine A_cV (pc := 1225) C (a := 84) (c := 8) (c_X8_thrown hT1) yw_X8_thrown lk_L_85 rfl (congrArg Prod.fst (tt_84 hT1)) hc_8 rfl dL_law_1225 rfl (by decide) (by omega) ⟨by omega, by omega⟩ ?_
  refine M_iload (pc := 1228) C dL_law_1228 rfl ?_
  refine M_icmp_eq (pc := 1230) C (tgt := 1235) (by rw [w1]; omega) (by omega) dL_law_1230 (by decide) (fun _ => ?_) (fun qq => absurd w1 qq)
  refine M_iload (pc := 1235) C dL_law_1235 rfl ?_
  have fin : M κ N1 T1 1405 (LL q i (some (vI code)) (some (vI (wr z))) e7 e8) [] v3 (k + 1) (n + 6) Q := kk N1 T1 v3 _ _ _ _ _ _ (w3.up (by omega)) (by omega) (by omega)
  refine M_if_ne (pc := 1237) C (tgt := 1252) (by omega) dL_law_1237 (by decide) (fun hne => M_goto (pc := 1252) C (tgt := 1405) dL_law_1252 (by decide) fin) (fun hz => ?_)
  refine M_aload_n (pc := 1240) C dL_law_1240 rfl (by decide) ?_
  refine M_iconst (pc := 1241) C dL_law_1241 ?_
  refine A_lald (pc := 1242) C (a := 95) (q := 0) rfl (tt_95 hT1) (by decide) rfl (by decide) dL_law_1242 (fun _ => ?_)
  refine M_iload (pc := 1243) C dL_law_1243 rfl ?_
  refine M_i2l (pc := 1245) C (wr_i32 _) dL_law_1245 ?_
  refine M_lcmpv (pc := 1246) C (z := 0) (by rw [w2 hz]; exact lcmp_self _) dL_law_1246 ?_
  exact M_if_eq (pc := 1247) C (tgt := 1252) (by decide) dL_law_1247 (by decide) (fun _ => M_goto (pc := 1252) C (tgt := 1405) dL_law_1252 (by decide) fin) (fun qq => absurd rfl qq)
theorem L_fewest {κ : KX} {nm : String} {d mc ms N q i len : Nat} {T : Ty} {v : Ct} {f : Nat → Int} {c : Int} {k n : Nat} {Q : State → Prop} {e5 e6 e7 e8 : Option MV} (C : CX κ (mLn nm) d mc ms) (hd : 40 ≤ d) (hA : ARG κ q len f) (hl : len ≤ 1536) (hi : i + 2 < len) (h : LI N T v c) (hc : c < 900000) (hN : N < 1000000000) (hk : k + 10 ≤ mc ∧ n + 139 ≤ ms) (kk : NX κ q i c k n Q) : M κ N T 1268 (LL q i e5 e6 e7 e8) [] v k n Q := by
  have hT := h.1
  refine M_aload_n (pc := 1268) C dL_law_1268 rfl (by decide) ?_
  refine M_aloadA_n (pc := 1269) C dL_law_1269 rfl ?_
  refine M_iload (pc := 1270) C dL_law_1270 rfl ?_
  refine M_iconst (pc := 1272) C dL_law_1272 ?_
  refine M_iadd (pc := 1273) C dL_law_1273 ?_
  refine M_ialdA (pc := 1274) C (g := i + 1) hA (by omega) (by omega) (by omega) dL_law_1274 (fun r_1274 => ?_)
  refine M_aload_n (pc := 1275) C dL_law_1275 rfl (by decide) ?_
  obtain ⟨code, dd, hdd, hR⟩ := p_fewest h r_1274
  refine M_callE (pc := 1276) C hR ye_fewest ml_LL_157 rfl dL_law_1276 rfl (by decide) (by omega) ⟨by omega, by omega⟩ (fun r1 N1 T1 v1 hp => ?_)
  obtain ⟨⟨rfl, h0, h2⟩, hT1, hN1, D, hD, hR2⟩ := hp
  refine M_istore (pc := 1279) C dL_law_1279 (Nat.le_of_ble_eq_true rfl) ?_
  refine M_aload_n (pc := 1281) C dL_law_1281 rfl (by decide) ?_
  refine M_aloadA_n (pc := 1282) C dL_law_1282 rfl ?_
  refine M_iload (pc := 1283) C dL_law_1283 rfl ?_
  refine M_iconst (pc := 1285) C dL_law_1285 ?_
  refine M_iadd (pc := 1286) C dL_law_1286 ?_
  refine M_ialdA (pc := 1287) C (g := i + 1) hA (by omega) (by omega) (by omega) dL_law_1287 (fun r_1287 => ?_)
  refine A_pV (pc := 1288) C (a := 84) (c := 8) hR2 yw_X8_fewest lk_L_159 rfl (congrArg Prod.fst (tt_84 hT1)) hc_8 rfl dL_law_1288 rfl (by decide) (by omega) ⟨by omega, by omega⟩ (fun r3 v3 hp => ?_)
  obtain ⟨z, rfl, w1, w2, w3⟩ := hp
  refine M_wr (pc := 1291) ?_
  refine M_istore (pc := 1291) C dL_law_1291 (Nat.le_of_ble_eq_true rfl) ?_
  refine M_aload_n (pc := 1293) C dL_law_1293 rfl (by decide) ?_
  refine A_cV (pc := 1294) C (a := 84) (c := 8) (c_X8_thrown hT1) yw_X8_thrown lk_L_85 rfl (congrArg Prod.fst (tt_84 hT1)) hc_8 rfl dL_law_1294 rfl (by decide) (by omega) ⟨by omega, by omega⟩ ?_
  refine M_iload (pc := 1297) C dL_law_1297 rfl ?_
  refine M_icmp_eq (pc := 1299) C (tgt := 1304) (by rw [w1]; omega) (by omega) dL_law_1299 (by decide) (fun _ => ?_) (fun qq => absurd w1 qq)
  refine M_iload (pc := 1304) C dL_law_1304 rfl ?_
  have fin : M κ N1 T1 1405 (LL q i (some (vI code)) (some (vI (wr z))) e7 e8) [] v3 (k + 1) (n + 6) Q := kk N1 T1 v3 _ _ _ _ _ _ (w3.up (by omega)) (by omega) (by omega)
  refine M_if_ne (pc := 1306) C (tgt := 1321) (by omega) dL_law_1306 (by decide) (fun hne => M_goto (pc := 1321) C (tgt := 1405) dL_law_1321 (by decide) fin) (fun hz => ?_)
  refine M_aload_n (pc := 1309) C dL_law_1309 rfl (by decide) ?_
  refine M_iconst (pc := 1310) C dL_law_1310 ?_
  refine A_lald (pc := 1311) C (a := 95) (q := 0) rfl (tt_95 hT1) (by decide) rfl (by decide) dL_law_1311 (fun _ => ?_)
  refine M_iload (pc := 1312) C dL_law_1312 rfl ?_
  refine M_i2l (pc := 1314) C (wr_i32 _) dL_law_1314 ?_
  refine M_lcmpv (pc := 1315) C (z := 0) (by rw [w2 hz]; exact lcmp_self _) dL_law_1315 ?_
  exact M_if_eq (pc := 1316) C (tgt := 1321) (by decide) dL_law_1316 (by decide) (fun _ => M_goto (pc := 1321) C (tgt := 1405) dL_law_1321 (by decide) fin) (fun qq => absurd rfl qq)
